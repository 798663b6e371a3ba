set_option maxRecDepth 100000 in
set_option maxHeartbeats 4000000 in
theorem w_c_fire (L : Nat) (b : Bool) (h : Hp) (i : Int32) (kc ks : Nat) (hI : INV h) (h0 : 0 ≤ i.toInt) (hi : i.toInt + 8 ≤ (L : Int)) (hL : L ≤ 4096) (kk : ∀ h1, INV h1 → SM h1 h → EvQ mi_L_law 1426 [some (.ref 0), some (.ref 1), some (.ref 63), some (.int i)] [] (G0 L b) h1 kc ks QL) : EvQ mi_L_law 192 [some (.ref 0), some (.ref 1), some (.ref 63), some (.int i)] [] (G0 L b) h kc ks QL := by
  refine ev_aload_n rfl rfl rfl ?_
  refine ev_aload_n rfl rfl rfl ?_
  refine ev_iload_n rfl rfl rfl ?_
  refine ev_iconst (v := 1) rfl rfl (by decide) ?_
  refine ev_iadd rfl rfl ?_
  refine ev_iald rfl rfl rfl (ix_in h0 hi hL (by decide)) rfl ?_
  refine ev_V1J (JW.refl (W := [(2, 2), (11, 1), (11, 2), (11, 3), (13, 999), (14, 999), (15, 999), (16, 999), (17, 999), (18, 999), (19, 999), (20, 999), (21, 999), (22, 999)]) hI.1) rfl rfl rfl lk_L_13 vt_X9_fire rfl rfl rfl rfl rfl (w_X9_fire_1 L b h hI.1 _) (fun r1 h1 q1 j1 k1 => ?_)
  have hI1 : INV h1 := ⟨k1.1, (sv_call hI.2.1 k1 rfl rfl), (KS.call hI.2.2.1 k1 (fun _ => rfl)), Rel.call hI.1 hI.2.2.2 k1 rfl rfl rfl rfl (fun _ => rfl) (fun _ => rfl) (fun _ => rfl) (fun _ => rfl) (fun _ => rfl) (fun _ => rfl) (fun _ => rfl) (fun _ => rfl) (fun _ => rfl) (fun _ => rfl) (fun _ => rfl)⟩
  refine ev_pop rfl rfl rfl ?_
  refine ev_aload_n rfl rfl rfl ?_
  refine ev_aload_n rfl rfl rfl ?_
  refine ev_iload_n rfl rfl rfl ?_
  refine ev_iconst (v := 1) rfl rfl (by decide) ?_
  refine ev_iadd rfl rfl ?_
  refine ev_iald rfl rfl rfl (ix_in h0 hi hL (by decide)) rfl ?_
  refine ev_V1I (JW.refl (W := [(63, 2), (63, 13), (71, 999)]) hI1.1) rfl rfl rfl lk_L_17 vt_X10_fire rfl rfl rfl rfl rfl (w_X10_fire_63 L b h1 hI1.1 _ hI1.2.1 hI1.2.2.1) (fun r2 h2 q2 j2 k2 => ?_)
  obtain ⟨_, s0_, s1_⟩ := q2
  have hI2 : INV h2 := ⟨k2.1, s0_, s1_, Rel.call hI1.1 hI1.2.2.2 k2 rfl rfl rfl rfl (fun _ => rfl) (fun _ => rfl) (fun _ => rfl) (fun _ => rfl) (fun _ => rfl) (fun _ => rfl) (fun _ => rfl) (fun _ => rfl) (fun _ => rfl) (fun _ => rfl) (fun _ => rfl)⟩
  refine ev_pop rfl rfl rfl ?_
  refine ev_goto rfl rfl ?_
  exact kk h2 hI2 (SM.call (SM.call (SM.refl h) k1 (fun _ => rfl) rfl) k2 (fun _ => rfl) rfl)

set_option maxRecDepth 100000 in
set_option maxHeartbeats 4000000 in
theorem w_c_water (L : Nat) (b : Bool) (h : Hp) (i : Int32) (kc ks : Nat) (hI : INV h) (h0 : 0 ≤ i.toInt) (hi : i.toInt + 8 ≤ (L : Int)) (hL : L ≤ 4096) (kk : ∀ h1, INV h1 → SM h1 h → EvQ mi_L_law 1426 [some (.ref 0), some (.ref 1), some (.ref 63), some (.int i)] [] (G0 L b) h1 kc ks QL) : EvQ mi_L_law 215 [some (.ref 0), some (.ref 1), some (.ref 63), some (.int i)] [] (G0 L b) h kc ks QL := by
  refine ev_aload_n rfl rfl rfl ?_
  refine ev_aload_n rfl rfl rfl ?_
  refine ev_iload_n rfl rfl rfl ?_
  refine ev_iconst (v := 1) rfl rfl (by decide) ?_
  refine ev_iadd rfl rfl ?_
  refine ev_iald rfl rfl rfl (ix_in h0 hi hL (by decide)) rfl ?_
  refine ev_V1J (JW.refl (W := [(2, 1), (11, 1), (11, 2), (11, 3), (13, 999), (14, 999), (15, 999), (16, 999), (17, 999), (18, 999), (19, 999), (20, 999), (21, 999), (22, 999)]) hI.1) rfl rfl rfl lk_L_18 vt_X9_water rfl rfl rfl rfl rfl (w_X9_water_1 L b h hI.1 _) (fun r1 h1 q1 j1 k1 => ?_)
  have hI1 : INV h1 := ⟨k1.1, (sv_call hI.2.1 k1 rfl rfl), (KS.call hI.2.2.1 k1 (fun _ => rfl)), Rel.call hI.1 hI.2.2.2 k1 rfl rfl rfl rfl (fun _ => rfl) (fun _ => rfl) (fun _ => rfl) (fun _ => rfl) (fun _ => rfl) (fun _ => rfl) (fun _ => rfl) (fun _ => rfl) (fun _ => rfl) (fun _ => rfl) (fun _ => rfl)⟩
  refine ev_pop rfl rfl rfl ?_
  refine ev_aload_n rfl rfl rfl ?_
  refine ev_aload_n rfl rfl rfl ?_
  refine ev_iload_n rfl rfl rfl ?_
  refine ev_iconst (v := 1) rfl rfl (by decide) ?_
  refine ev_iadd rfl rfl ?_
  refine ev_iald rfl rfl rfl (ix_in h0 hi hL (by decide)) rfl ?_
  refine ev_V1I (JW.refl (W := [(63, 1), (63, 13), (71, 999)]) hI1.1) rfl rfl rfl lk_L_21 vt_X10_water rfl rfl rfl rfl rfl (w_X10_water_63 L b h1 hI1.1 _ hI1.2.1 hI1.2.2.1) (fun r2 h2 q2 j2 k2 => ?_)
  obtain ⟨_, s0_, s1_⟩ := q2
  have hI2 : INV h2 := ⟨k2.1, s0_, s1_, Rel.call hI1.1 hI1.2.2.2 k2 rfl rfl rfl rfl (fun _ => rfl) (fun _ => rfl) (fun _ => rfl) (fun _ => rfl) (fun _ => rfl) (fun _ => rfl) (fun _ => rfl) (fun _ => rfl) (fun _ => rfl) (fun _ => rfl) (fun _ => rfl)⟩
  refine ev_pop rfl rfl rfl ?_
  refine ev_goto rfl rfl ?_
  exact kk h2 hI2 (SM.call (SM.call (SM.refl h) k1 (fun _ => rfl) rfl) k2 (fun _ => rfl) rfl)

set_option maxRecDepth 100000 in
set_option maxHeartbeats 4000000 in
theorem w_c_valve (L : Nat) (b : Bool) (h : Hp) (i : Int32) (kc ks : Nat) (hI : INV h) (h0 : 0 ≤ i.toInt) (hi : i.toInt + 8 ≤ (L : Int)) (hL : L ≤ 4096) (kk : ∀ h1, INV h1 → SM h1 h → EvQ mi_L_law 1426 [some (.ref 0), some (.ref 1), some (.ref 63), some (.int i)] [] (G0 L b) h1 kc ks QL) : EvQ mi_L_law 238 [some (.ref 0), some (.ref 1), some (.ref 63), some (.int i)] [] (G0 L b) h kc ks QL := by
  refine ev_aload_n rfl rfl rfl ?_
  refine ev_aload_n rfl rfl rfl ?_
  refine ev_iload_n rfl rfl rfl ?_
  refine ev_iconst (v := 1) rfl rfl (by decide) ?_
  refine ev_iadd rfl rfl ?_
  refine ev_iald rfl rfl rfl (ix_in h0 hi hL (by decide)) rfl ?_
  refine ev_V1J (JW.refl (W := [(2, 0), (2, 3), (11, 1), (11, 2), (11, 3), (13, 999), (14, 999), (15, 999), (16, 999), (17, 999), (18, 999), (19, 999), (20, 999), (21, 999), (22, 999)]) hI.1) rfl rfl rfl lk_L_22 vt_X9_valve rfl rfl rfl rfl rfl (w_X9_valve_1 L b h hI.1 _) (fun r1 h1 q1 j1 k1 => ?_)
  have hI1 : INV h1 := ⟨k1.1, (sv_call hI.2.1 k1 rfl rfl), (KS.call hI.2.2.1 k1 (fun _ => rfl)), Rel.call hI.1 hI.2.2.2 k1 rfl rfl rfl rfl (fun _ => rfl) (fun _ => rfl) (fun _ => rfl) (fun _ => rfl) (fun _ => rfl) (fun _ => rfl) (fun _ => rfl) (fun _ => rfl) (fun _ => rfl) (fun _ => rfl) (fun _ => rfl)⟩
  refine ev_pop rfl rfl rfl ?_
  refine ev_aload_n rfl rfl rfl ?_
  refine ev_aload_n rfl rfl rfl ?_
  refine ev_iload_n rfl rfl rfl ?_
  refine ev_iconst (v := 1) rfl rfl (by decide) ?_
  refine ev_iadd rfl rfl ?_
  refine ev_iald rfl rfl rfl (ix_in h0 hi hL (by decide)) rfl ?_
  refine ev_V1I (JW.refl (W := [(63, 0), (63, 3), (63, 13), (71, 999)]) hI1.1) rfl rfl rfl lk_L_25 vt_X10_valve rfl rfl rfl rfl rfl (w_X10_valve_63 L b h1 hI1.1 _ hI1.2.1 hI1.2.2.1) (fun r2 h2 q2 j2 k2 => ?_)
  obtain ⟨_, s0_, s1_⟩ := q2
  have hI2 : INV h2 := ⟨k2.1, s0_, s1_, Rel.call hI1.1 hI1.2.2.2 k2 rfl rfl rfl rfl (fun _ => rfl) (fun _ => rfl) (fun _ => rfl) (fun _ => rfl) (fun _ => rfl) (fun _ => rfl) (fun _ => rfl) (fun _ => rfl) (fun _ => rfl) (fun _ => rfl) (fun _ => rfl)⟩
  refine ev_pop rfl rfl rfl ?_
  refine ev_goto rfl rfl ?_
  exact kk h2 hI2 (SM.call (SM.call (SM.refl h) k1 (fun _ => rfl) rfl) k2 (fun _ => rfl) rfl)

set_option maxRecDepth 100000 in
set_option maxHeartbeats 4000000 in
theorem w_c_pressure (L : Nat) (b : Bool) (h : Hp) (i : Int32) (kc ks : Nat) (hI : INV h) (h0 : 0 ≤ i.toInt) (hi : i.toInt + 8 ≤ (L : Int)) (hL : L ≤ 4096) (kk : ∀ h1, INV h1 → SM h1 h → EvQ mi_L_law 1426 [some (.ref 0), some (.ref 1), some (.ref 63), some (.int i)] [] (G0 L b) h1 kc ks QL) : EvQ mi_L_law 261 [some (.ref 0), some (.ref 1), some (.ref 63), some (.int i)] [] (G0 L b) h kc ks QL := by
  refine ev_aload_n rfl rfl rfl ?_
  refine ev_aload_n rfl rfl rfl ?_
  refine ev_iload_n rfl rfl rfl ?_
  refine ev_iconst (v := 1) rfl rfl (by decide) ?_
  refine ev_iadd rfl rfl ?_
  refine ev_iald rfl rfl rfl (ix_in h0 hi hL (by decide)) rfl ?_
  refine ev_V1J (JW.refl (W := [(2, 0), (11, 1), (11, 2), (11, 3), (13, 999), (14, 999), (15, 999), (16, 999), (17, 999), (18, 999), (19, 999), (20, 999), (21, 999), (22, 999)]) hI.1) rfl rfl rfl lk_L_26 vt_X9_pressure rfl rfl rfl rfl rfl (w_X9_pressure_1 L b h hI.1 _) (fun r1 h1 q1 j1 k1 => ?_)
  have hI1 : INV h1 := ⟨k1.1, (sv_call hI.2.1 k1 rfl rfl), (KS.call hI.2.2.1 k1 (fun _ => rfl)), Rel.call hI.1 hI.2.2.2 k1 rfl rfl rfl rfl (fun _ => rfl) (fun _ => rfl) (fun _ => rfl) (fun _ => rfl) (fun _ => rfl) (fun _ => rfl) (fun _ => rfl) (fun _ => rfl) (fun _ => rfl) (fun _ => rfl) (fun _ => rfl)⟩
  refine ev_pop rfl rfl rfl ?_
  refine ev_aload_n rfl rfl rfl ?_
  refine ev_aload_n rfl rfl rfl ?_
  refine ev_iload_n rfl rfl rfl ?_
  refine ev_iconst (v := 1) rfl rfl (by decide) ?_
  refine ev_iadd rfl rfl ?_
  refine ev_iald rfl rfl rfl (ix_in h0 hi hL (by decide)) rfl ?_
  refine ev_V1I (JW.refl (W := [(63, 0), (63, 13), (71, 999)]) hI1.1) rfl rfl rfl lk_L_29 vt_X10_pressure rfl rfl rfl rfl rfl (w_X10_pressure_63 L b h1 hI1.1 _ hI1.2.1 hI1.2.2.1) (fun r2 h2 q2 j2 k2 => ?_)
  obtain ⟨_, s0_, s1_⟩ := q2
  have hI2 : INV h2 := ⟨k2.1, s0_, s1_, Rel.call hI1.1 hI1.2.2.2 k2 rfl rfl rfl rfl (fun _ => rfl) (fun _ => rfl) (fun _ => rfl) (fun _ => rfl) (fun _ => rfl) (fun _ => rfl) (fun _ => rfl) (fun _ => rfl) (fun _ => rfl) (fun _ => rfl) (fun _ => rfl)⟩
  refine ev_pop rfl rfl rfl ?_
  refine ev_goto rfl rfl ?_
  exact kk h2 hI2 (SM.call (SM.call (SM.refl h) k1 (fun _ => rfl) rfl) k2 (fun _ => rfl) rfl)

set_option maxRecDepth 100000 in
set_option maxHeartbeats 4000000 in
theorem w_c_boiler (L : Nat) (b : Bool) (h : Hp) (i : Int32) (kc ks : Nat) (hI : INV h) (h0 : 0 ≤ i.toInt) (hi : i.toInt + 8 ≤ (L : Int)) (hL : L ≤ 4096) (kk : ∀ h1, INV h1 → SM h1 h → EvQ mi_L_law 1426 [some (.ref 0), some (.ref 1), some (.ref 63), some (.int i)] [] (G0 L b) h1 kc ks QL) : EvQ mi_L_law 284 [some (.ref 0), some (.ref 1), some (.ref 63), some (.int i)] [] (G0 L b) h kc ks QL := by
  refine ev_aload_n rfl rfl rfl ?_
  refine ev_aload_n rfl rfl rfl ?_
  refine ev_iload_n rfl rfl rfl ?_
  refine ev_iconst (v := 1) rfl rfl (by decide) ?_
  refine ev_iadd rfl rfl ?_
  refine ev_iald rfl rfl rfl (ix_in h0 hi hL (by decide)) rfl ?_
  refine ev_V1P rfl rfl lk_L_30 vt_X9_boiler rfl rfl rfl rfl rfl (w_X9_boiler_1 L b h hI.1 _) (fun r1 q1 => ?_)
  refine ev_pop rfl rfl rfl ?_
  refine ev_aload_n rfl rfl rfl ?_
  refine ev_aload_n rfl rfl rfl ?_
  refine ev_iload_n rfl rfl rfl ?_
  refine ev_iconst (v := 1) rfl rfl (by decide) ?_
  refine ev_iadd rfl rfl ?_
  refine ev_iald rfl rfl rfl (ix_in h0 hi hL (by decide)) rfl ?_
  refine ev_V1P rfl rfl lk_L_33 vt_X10_boiler rfl rfl rfl rfl rfl (w_X10_boiler_63 L b h hI.1 _) (fun r2 q2 => ?_)
  refine ev_pop rfl rfl rfl ?_
  refine ev_goto rfl rfl ?_
  exact kk h hI (SM.refl h)

set_option maxRecDepth 100000 in
set_option maxHeartbeats 4000000 in
theorem w_c_beat (L : Nat) (b : Bool) (h : Hp) (i : Int32) (kc ks : Nat) (hI : INV h) (h0 : 0 ≤ i.toInt) (hi : i.toInt + 8 ≤ (L : Int)) (hL : L ≤ 4096) (kk : ∀ h1, INV h1 → SM h1 h → EvQ mi_L_law 1426 [some (.ref 0), some (.ref 1), some (.ref 63), some (.int i)] [] (G0 L b) h1 kc ks QL) : EvQ mi_L_law 307 [some (.ref 0), some (.ref 1), some (.ref 63), some (.int i)] [] (G0 L b) h kc ks QL := by
  refine ev_aload_n rfl rfl rfl ?_
  refine ev_aload_n rfl rfl rfl ?_
  refine ev_iload_n rfl rfl rfl ?_
  refine ev_iconst (v := 1) rfl rfl (by decide) ?_
  refine ev_iadd rfl rfl ?_
  refine ev_iald rfl rfl rfl (ix_in h0 hi hL (by decide)) rfl ?_
  refine ev_V1J (JW.refl (W := [(2, 0), (2, 1), (2, 4), (11, 1), (11, 2), (11, 3), (13, 999), (14, 999), (15, 999), (16, 999), (17, 999), (18, 999), (19, 999), (20, 999), (21, 999), (22, 999)]) hI.1) rfl rfl rfl lk_L_34 vt_X9_beat rfl rfl rfl rfl rfl (w_X9_beat_1 L b h hI.1 _) (fun r1 h1 q1 j1 k1 => ?_)
  have hI1 : INV h1 := ⟨k1.1, (sv_call hI.2.1 k1 rfl rfl), (KS.call hI.2.2.1 k1 (fun _ => rfl)), Rel.call hI.1 hI.2.2.2 k1 rfl rfl rfl rfl (fun _ => rfl) (fun _ => rfl) (fun _ => rfl) (fun _ => rfl) (fun _ => rfl) (fun _ => rfl) (fun _ => rfl) (fun _ => rfl) (fun _ => rfl) (fun _ => rfl) (fun _ => rfl)⟩
  refine ev_pop rfl rfl rfl ?_
  refine ev_aload_n rfl rfl rfl ?_
  refine ev_aload_n rfl rfl rfl ?_
  refine ev_iload_n rfl rfl rfl ?_
  refine ev_iconst (v := 1) rfl rfl (by decide) ?_
  refine ev_iadd rfl rfl ?_
  refine ev_iald rfl rfl rfl (ix_in h0 hi hL (by decide)) rfl ?_
  refine ev_V1I (JW.refl (W := [(63, 0), (63, 1), (63, 4), (63, 13), (71, 999)]) hI1.1) rfl rfl rfl lk_L_37 vt_X10_beat rfl rfl rfl rfl rfl (w_X10_beat_63 L b h1 hI1.1 _ hI1.2.1 hI1.2.2.1) (fun r2 h2 q2 j2 k2 => ?_)
  obtain ⟨_, s0_, s1_⟩ := q2
  have hI2 : INV h2 := ⟨k2.1, s0_, s1_, Rel.call hI1.1 hI1.2.2.2 k2 rfl rfl rfl rfl (fun _ => rfl) (fun _ => rfl) (fun _ => rfl) (fun _ => rfl) (fun _ => rfl) (fun _ => rfl) (fun _ => rfl) (fun _ => rfl) (fun _ => rfl) (fun _ => rfl) (fun _ => rfl)⟩
  refine ev_pop rfl rfl rfl ?_
  refine ev_goto rfl rfl ?_
  exact kk h2 hI2 (SM.call (SM.call (SM.refl h) k1 (fun _ => rfl) rfl) k2 (fun _ => rfl) rfl)

set_option maxRecDepth 100000 in
set_option maxHeartbeats 4000000 in
theorem w_c_whistle (L : Nat) (b : Bool) (h : Hp) (i : Int32) (kc ks : Nat) (hI : INV h) (h0 : 0 ≤ i.toInt) (hi : i.toInt + 8 ≤ (L : Int)) (hL : L ≤ 4096) (kk : ∀ h1, INV h1 → SM h1 h → EvQ mi_L_law 1426 [some (.ref 0), some (.ref 1), some (.ref 63), some (.int i)] [] (G0 L b) h1 kc ks QL) : EvQ mi_L_law 330 [some (.ref 0), some (.ref 1), some (.ref 63), some (.int i)] [] (G0 L b) h kc ks QL := by
  refine ev_aload_n rfl rfl rfl ?_
  refine ev_aload_n rfl rfl rfl ?_
  refine ev_iload_n rfl rfl rfl ?_
  refine ev_iconst (v := 1) rfl rfl (by decide) ?_
  refine ev_iadd rfl rfl ?_
  refine ev_iald rfl rfl rfl (ix_in h0 hi hL (by decide)) rfl ?_
  refine ev_aload_n rfl rfl rfl ?_
  refine ev_iload_n rfl rfl rfl ?_
  refine ev_iconst (v := 2) rfl rfl (by decide) ?_
  refine ev_iadd rfl rfl ?_
  refine ev_iald rfl rfl rfl (ix_in h0 hi hL (by decide)) rfl ?_
  refine ev_aload_n rfl rfl rfl ?_
  refine ev_iload_n rfl rfl rfl ?_
  refine ev_iconst (v := 3) rfl rfl (by decide) ?_
  refine ev_iadd rfl rfl ?_
  refine ev_iald rfl rfl rfl (ix_in h0 hi hL (by decide)) rfl ?_
  refine ev_aload_n rfl rfl rfl ?_
  refine ev_iload_n rfl rfl rfl ?_
  refine ev_iconst (v := 4) rfl rfl (by decide) ?_
  refine ev_iadd rfl rfl ?_
  refine ev_iald rfl rfl rfl (ix_in h0 hi hL (by decide)) rfl ?_
  refine ev_if_eq rfl rfl (fun c_351 => ?_) (fun c_351 => ?_)
  · refine ev_iconst (v := 0) rfl rfl (by decide) ?_
    refine ev_V4J (JW.refl (W := [(4, 7), (5, 999), (6, 999), (7, 999), (8, 999)]) hI.1) rfl rfl rfl lk_L_38 vt_X9_whistle rfl rfl rfl rfl rfl (w_X9_whistle_1 L b h hI.1 _ _ _ _ (by decide)) (fun r1 h1 q1 j1 k1 => ?_)
    have hI1 : INV h1 := ⟨k1.1, (sv_call hI.2.1 k1 rfl rfl), (KS.call hI.2.2.1 k1 (fun _ => rfl)), Rel.call hI.1 hI.2.2.2 k1 rfl rfl rfl rfl (fun _ => rfl) (fun _ => rfl) (fun _ => rfl) (fun _ => rfl) (fun _ => rfl) (fun _ => rfl) (fun _ => rfl) (fun _ => rfl) (fun _ => rfl) (fun _ => rfl) (fun _ => rfl)⟩
    refine ev_pop rfl rfl rfl ?_
    refine ev_aload_n rfl rfl rfl ?_
    refine ev_aload_n rfl rfl rfl ?_
    refine ev_iload_n rfl rfl rfl ?_
    refine ev_iconst (v := 1) rfl rfl (by decide) ?_
    refine ev_iadd rfl rfl ?_
    refine ev_iald rfl rfl rfl (ix_in h0 hi hL (by decide)) rfl ?_
    refine ev_aload_n rfl rfl rfl ?_
    refine ev_iload_n rfl rfl rfl ?_
    refine ev_iconst (v := 2) rfl rfl (by decide) ?_
    refine ev_iadd rfl rfl ?_
    refine ev_iald rfl rfl rfl (ix_in h0 hi hL (by decide)) rfl ?_
    refine ev_aload_n rfl rfl rfl ?_
    refine ev_iload_n rfl rfl rfl ?_
    refine ev_iconst (v := 3) rfl rfl (by decide) ?_
    refine ev_iadd rfl rfl ?_
    refine ev_iald rfl rfl rfl (ix_in h0 hi hL (by decide)) rfl ?_
    refine ev_aload_n rfl rfl rfl ?_
    refine ev_iload_n rfl rfl rfl ?_
    refine ev_iconst (v := 4) rfl rfl (by decide) ?_
    refine ev_iadd rfl rfl ?_
    refine ev_iald rfl rfl rfl (ix_in h0 hi hL (by decide)) rfl ?_
    refine ev_if_eq rfl rfl (fun c_384 => ?_) (fun c_384 => ?_)
    · refine ev_iconst (v := 0) rfl rfl (by decide) ?_
      refine ev_V4J (JW.refl (W := [(63, 5), (64, 999), (65, 999), (66, 999), (67, 999), (68, 999), (69, 999), (70, 999)]) hI1.1) rfl rfl rfl lk_L_42 vt_X10_whistle rfl rfl rfl rfl rfl (w_X10_whistle_63 L b h1 hI1.1 _ _ _ _ (by decide)) (fun r2 h2 q2 j2 k2 => ?_)
      have hI2 : INV h2 := ⟨k2.1, (sv_call hI1.2.1 k2 rfl rfl), (KS.call hI1.2.2.1 k2 (fun _ => rfl)), Rel.call hI1.1 hI1.2.2.2 k2 rfl rfl rfl rfl (fun _ => rfl) (fun _ => rfl) (fun _ => rfl) (fun _ => rfl) (fun _ => rfl) (fun _ => rfl) (fun _ => rfl) (fun _ => rfl) (fun _ => rfl) (fun _ => rfl) (fun _ => rfl)⟩
      refine ev_pop rfl rfl rfl ?_
      refine ev_goto rfl rfl ?_
      exact kk h2 hI2 (SM.call (SM.call (SM.refl h) k1 (fun _ => rfl) rfl) k2 (fun _ => rfl) rfl)
    · refine ev_iconst (v := 1) rfl rfl (by decide) ?_
      refine ev_goto rfl rfl ?_
      refine ev_V4J (JW.refl (W := [(63, 5), (64, 999), (65, 999), (66, 999), (67, 999), (68, 999), (69, 999), (70, 999)]) hI1.1) rfl rfl rfl lk_L_42 vt_X10_whistle rfl rfl rfl rfl rfl (w_X10_whistle_63 L b h1 hI1.1 _ _ _ _ (by decide)) (fun r2 h2 q2 j2 k2 => ?_)
      have hI2 : INV h2 := ⟨k2.1, (sv_call hI1.2.1 k2 rfl rfl), (KS.call hI1.2.2.1 k2 (fun _ => rfl)), Rel.call hI1.1 hI1.2.2.2 k2 rfl rfl rfl rfl (fun _ => rfl) (fun _ => rfl) (fun _ => rfl) (fun _ => rfl) (fun _ => rfl) (fun _ => rfl) (fun _ => rfl) (fun _ => rfl) (fun _ => rfl) (fun _ => rfl) (fun _ => rfl)⟩
      refine ev_pop rfl rfl rfl ?_
      refine ev_goto rfl rfl ?_
      exact kk h2 hI2 (SM.call (SM.call (SM.refl h) k1 (fun _ => rfl) rfl) k2 (fun _ => rfl) rfl)
  · refine ev_iconst (v := 1) rfl rfl (by decide) ?_
    refine ev_goto rfl rfl ?_
    refine ev_V4J (JW.refl (W := [(4, 7), (5, 999), (6, 999), (7, 999), (8, 999)]) hI.1) rfl rfl rfl lk_L_38 vt_X9_whistle rfl rfl rfl rfl rfl (w_X9_whistle_1 L b h hI.1 _ _ _ _ (by decide)) (fun r1 h1 q1 j1 k1 => ?_)
    have hI1 : INV h1 := ⟨k1.1, (sv_call hI.2.1 k1 rfl rfl), (KS.call hI.2.2.1 k1 (fun _ => rfl)), Rel.call hI.1 hI.2.2.2 k1 rfl rfl rfl rfl (fun _ => rfl) (fun _ => rfl) (fun _ => rfl) (fun _ => rfl) (fun _ => rfl) (fun _ => rfl) (fun _ => rfl) (fun _ => rfl) (fun _ => rfl) (fun _ => rfl) (fun _ => rfl)⟩
    refine ev_pop rfl rfl rfl ?_
    refine ev_aload_n rfl rfl rfl ?_
    refine ev_aload_n rfl rfl rfl ?_
    refine ev_iload_n rfl rfl rfl ?_
    refine ev_iconst (v := 1) rfl rfl (by decide) ?_
    refine ev_iadd rfl rfl ?_
    refine ev_iald rfl rfl rfl (ix_in h0 hi hL (by decide)) rfl ?_
    refine ev_aload_n rfl rfl rfl ?_
    refine ev_iload_n rfl rfl rfl ?_
    refine ev_iconst (v := 2) rfl rfl (by decide) ?_
    refine ev_iadd rfl rfl ?_
    refine ev_iald rfl rfl rfl (ix_in h0 hi hL (by decide)) rfl ?_
    refine ev_aload_n rfl rfl rfl ?_
    refine ev_iload_n rfl rfl rfl ?_
    refine ev_iconst (v := 3) rfl rfl (by decide) ?_
    refine ev_iadd rfl rfl ?_
    refine ev_iald rfl rfl rfl (ix_in h0 hi hL (by decide)) rfl ?_
    refine ev_aload_n rfl rfl rfl ?_
    refine ev_iload_n rfl rfl rfl ?_
    refine ev_iconst (v := 4) rfl rfl (by decide) ?_
    refine ev_iadd rfl rfl ?_
    refine ev_iald rfl rfl rfl (ix_in h0 hi hL (by decide)) rfl ?_
    refine ev_if_eq rfl rfl (fun c_384 => ?_) (fun c_384 => ?_)
    · refine ev_iconst (v := 0) rfl rfl (by decide) ?_
      refine ev_V4J (JW.refl (W := [(63, 5), (64, 999), (65, 999), (66, 999), (67, 999), (68, 999), (69, 999), (70, 999)]) hI1.1) rfl rfl rfl lk_L_42 vt_X10_whistle rfl rfl rfl rfl rfl (w_X10_whistle_63 L b h1 hI1.1 _ _ _ _ (by decide)) (fun r2 h2 q2 j2 k2 => ?_)
      have hI2 : INV h2 := ⟨k2.1, (sv_call hI1.2.1 k2 rfl rfl), (KS.call hI1.2.2.1 k2 (fun _ => rfl)), Rel.call hI1.1 hI1.2.2.2 k2 rfl rfl rfl rfl (fun _ => rfl) (fun _ => rfl) (fun _ => rfl) (fun _ => rfl) (fun _ => rfl) (fun _ => rfl) (fun _ => rfl) (fun _ => rfl) (fun _ => rfl) (fun _ => rfl) (fun _ => rfl)⟩
      refine ev_pop rfl rfl rfl ?_
      refine ev_goto rfl rfl ?_
      exact kk h2 hI2 (SM.call (SM.call (SM.refl h) k1 (fun _ => rfl) rfl) k2 (fun _ => rfl) rfl)
    · refine ev_iconst (v := 1) rfl rfl (by decide) ?_
      refine ev_goto rfl rfl ?_
      refine ev_V4J (JW.refl (W := [(63, 5), (64, 999), (65, 999), (66, 999), (67, 999), (68, 999), (69, 999), (70, 999)]) hI1.1) rfl rfl rfl lk_L_42 vt_X10_whistle rfl rfl rfl rfl rfl (w_X10_whistle_63 L b h1 hI1.1 _ _ _ _ (by decide)) (fun r2 h2 q2 j2 k2 => ?_)
      have hI2 : INV h2 := ⟨k2.1, (sv_call hI1.2.1 k2 rfl rfl), (KS.call hI1.2.2.1 k2 (fun _ => rfl)), Rel.call hI1.1 hI1.2.2.2 k2 rfl rfl rfl rfl (fun _ => rfl) (fun _ => rfl) (fun _ => rfl) (fun _ => rfl) (fun _ => rfl) (fun _ => rfl) (fun _ => rfl) (fun _ => rfl) (fun _ => rfl) (fun _ => rfl) (fun _ => rfl)⟩
      refine ev_pop rfl rfl rfl ?_
      refine ev_goto rfl rfl ?_
      exact kk h2 hI2 (SM.call (SM.call (SM.refl h) k1 (fun _ => rfl) rfl) k2 (fun _ => rfl) rfl)

set_option maxRecDepth 100000 in
set_option maxHeartbeats 4000000 in
theorem w_c_told (L : Nat) (b : Bool) (h : Hp) (i : Int32) (kc ks : Nat) (hI : INV h) (h0 : 0 ≤ i.toInt) (hi : i.toInt + 8 ≤ (L : Int)) (hL : L ≤ 4096) (kk : ∀ h1, INV h1 → SM h1 h → EvQ mi_L_law 1426 [some (.ref 0), some (.ref 1), some (.ref 63), some (.int i)] [] (G0 L b) h1 kc ks QL) : EvQ mi_L_law 399 [some (.ref 0), some (.ref 1), some (.ref 63), some (.int i)] [] (G0 L b) h kc ks QL := by
  refine ev_aload_n rfl rfl rfl ?_
  refine ev_aload_n rfl rfl rfl ?_
  refine ev_iload_n rfl rfl rfl ?_
  refine ev_iconst (v := 1) rfl rfl (by decide) ?_
  refine ev_iadd rfl rfl ?_
  refine ev_iald rfl rfl rfl (ix_in h0 hi hL (by decide)) rfl ?_
  refine ev_aload_n rfl rfl rfl ?_
  refine ev_iload_n rfl rfl rfl ?_
  refine ev_iconst (v := 2) rfl rfl (by decide) ?_
  refine ev_iadd rfl rfl ?_
  refine ev_iald rfl rfl rfl (ix_in h0 hi hL (by decide)) rfl ?_
  refine ev_V2P rfl rfl lk_L_43 vt_X9_told rfl rfl rfl rfl rfl (w_X9_told_1 L b h hI.1 _ _) (fun r1 q1 => ?_)
  refine ev_pop rfl rfl rfl ?_
  refine ev_aload_n rfl rfl rfl ?_
  refine ev_aload_n rfl rfl rfl ?_
  refine ev_iload_n rfl rfl rfl ?_
  refine ev_iconst (v := 1) rfl rfl (by decide) ?_
  refine ev_iadd rfl rfl ?_
  refine ev_iald rfl rfl rfl (ix_in h0 hi hL (by decide)) rfl ?_
  refine ev_aload_n rfl rfl rfl ?_
  refine ev_iload_n rfl rfl rfl ?_
  refine ev_iconst (v := 2) rfl rfl (by decide) ?_
  refine ev_iadd rfl rfl ?_
  refine ev_iald rfl rfl rfl (ix_in h0 hi hL (by decide)) rfl ?_
  refine ev_V2P rfl rfl lk_L_47 vt_X10_told rfl rfl rfl rfl rfl (w_X10_told_63 L b h hI.1 _ _) (fun r2 q2 => ?_)
  refine ev_pop rfl rfl rfl ?_
  refine ev_goto rfl rfl ?_
  exact kk h hI (SM.refl h)

set_option maxRecDepth 100000 in
set_option maxHeartbeats 4000000 in
theorem w_c_stem (L : Nat) (b : Bool) (h : Hp) (i : Int32) (kc ks : Nat) (hI : INV h) (h0 : 0 ≤ i.toInt) (hi : i.toInt + 8 ≤ (L : Int)) (hL : L ≤ 4096) (kk : ∀ h1, INV h1 → SM h1 h → EvQ mi_L_law 1426 [some (.ref 0), some (.ref 1), some (.ref 63), some (.int i)] [] (G0 L b) h1 kc ks QL) : EvQ mi_L_law 432 [some (.ref 0), some (.ref 1), some (.ref 63), some (.int i)] [] (G0 L b) h kc ks QL := by
  refine ev_aload_n rfl rfl rfl ?_
  refine ev_aload_n rfl rfl rfl ?_
  refine ev_iload_n rfl rfl rfl ?_
  refine ev_iconst (v := 1) rfl rfl (by decide) ?_
  refine ev_iadd rfl rfl ?_
  refine ev_iald rfl rfl rfl (ix_in h0 hi hL (by decide)) rfl ?_
  refine ev_aload_n rfl rfl rfl ?_
  refine ev_iload_n rfl rfl rfl ?_
  refine ev_iconst (v := 2) rfl rfl (by decide) ?_
  refine ev_iadd rfl rfl ?_
  refine ev_iald rfl rfl rfl (ix_in h0 hi hL (by decide)) rfl ?_
  refine ev_V2J (JW.refl (W := [(9, 999), (11, 1), (11, 2), (11, 3), (13, 999), (14, 999), (15, 999), (16, 999), (17, 999), (18, 999), (19, 999), (20, 999), (21, 999), (22, 999)]) hI.1) rfl rfl rfl lk_L_48 vt_X9_stem rfl rfl rfl rfl rfl (w_X9_stem_1 L b h hI.1 _ _) (fun r1 h1 q1 j1 k1 => ?_)
  have hI1 : INV h1 := ⟨k1.1, (sv_call hI.2.1 k1 rfl rfl), (KS.call hI.2.2.1 k1 (fun _ => rfl)), Rel.call hI.1 hI.2.2.2 k1 rfl rfl rfl rfl (fun _ => rfl) (fun _ => rfl) (fun _ => rfl) (fun _ => rfl) (fun _ => rfl) (fun _ => rfl) (fun _ => rfl) (fun _ => rfl) (fun _ => rfl) (fun _ => rfl) (fun _ => rfl)⟩
  refine ev_pop rfl rfl rfl ?_
  refine ev_aload_n rfl rfl rfl ?_
  refine ev_aload_n rfl rfl rfl ?_
  refine ev_iload_n rfl rfl rfl ?_
  refine ev_iconst (v := 1) rfl rfl (by decide) ?_
  refine ev_iadd rfl rfl ?_
  refine ev_iald rfl rfl rfl (ix_in h0 hi hL (by decide)) rfl ?_
  refine ev_aload_n rfl rfl rfl ?_
  refine ev_iload_n rfl rfl rfl ?_
  refine ev_iconst (v := 2) rfl rfl (by decide) ?_
  refine ev_iadd rfl rfl ?_
  refine ev_iald rfl rfl rfl (ix_in h0 hi hL (by decide)) rfl ?_
  refine ev_V2I (JW.refl (W := [(63, 13), (68, 999), (71, 999)]) hI1.1) rfl rfl rfl lk_L_51 vt_X10_stem rfl rfl rfl rfl rfl (w_X10_stem_63 L b h1 hI1.1 _ _ hI1.2.1 hI1.2.2.1) (fun r2 h2 q2 j2 k2 => ?_)
  obtain ⟨_, s0_, s1_⟩ := q2
  have hI2 : INV h2 := ⟨k2.1, s0_, s1_, Rel.call hI1.1 hI1.2.2.2 k2 rfl rfl rfl rfl (fun _ => rfl) (fun _ => rfl) (fun _ => rfl) (fun _ => rfl) (fun _ => rfl) (fun _ => rfl) (fun _ => rfl) (fun _ => rfl) (fun _ => rfl) (fun _ => rfl) (fun _ => rfl)⟩
  refine ev_pop rfl rfl rfl ?_
  refine ev_goto rfl rfl ?_
  exact kk h2 hI2 (SM.call (SM.call (SM.refl h) k1 (fun _ => rfl) rfl) k2 (fun _ => rfl) rfl)

set_option maxRecDepth 100000 in
set_option maxHeartbeats 4000000 in
theorem w_c_crack (L : Nat) (b : Bool) (h : Hp) (i : Int32) (kc ks : Nat) (hI : INV h) (h0 : 0 ≤ i.toInt) (hi : i.toInt + 8 ≤ (L : Int)) (hL : L ≤ 4096) (kk : ∀ h1, INV h1 → SM h1 h → EvQ mi_L_law 1426 [some (.ref 0), some (.ref 1), some (.ref 63), some (.int i)] [] (G0 L b) h1 kc ks QL) : EvQ mi_L_law 465 [some (.ref 0), some (.ref 1), some (.ref 63), some (.int i)] [] (G0 L b) h kc ks QL := by
  refine ev_aload_n rfl rfl rfl ?_
  refine ev_aload_n rfl rfl rfl ?_
  refine ev_iload_n rfl rfl rfl ?_
  refine ev_iconst (v := 1) rfl rfl (by decide) ?_
  refine ev_iadd rfl rfl ?_
  refine ev_iald rfl rfl rfl (ix_in h0 hi hL (by decide)) rfl ?_
  refine ev_aload_n rfl rfl rfl ?_
  refine ev_iload_n rfl rfl rfl ?_
  refine ev_iconst (v := 2) rfl rfl (by decide) ?_
  refine ev_iadd rfl rfl ?_
  refine ev_iald rfl rfl rfl (ix_in h0 hi hL (by decide)) rfl ?_
  refine ev_V2J (JW.refl (W := [(10, 999), (11, 1), (11, 2), (11, 3), (13, 999), (14, 999), (15, 999), (16, 999), (17, 999), (18, 999), (19, 999), (20, 999), (21, 999), (22, 999)]) hI.1) rfl rfl rfl lk_L_52 vt_X9_crack rfl rfl rfl rfl rfl (w_X9_crack_1 L b h hI.1 _ _) (fun r1 h1 q1 j1 k1 => ?_)
  have hI1 : INV h1 := ⟨k1.1, (sv_call hI.2.1 k1 rfl rfl), (KS.call hI.2.2.1 k1 (fun _ => rfl)), Rel.call hI.1 hI.2.2.2 k1 rfl rfl rfl rfl (fun _ => rfl) (fun _ => rfl) (fun _ => rfl) (fun _ => rfl) (fun _ => rfl) (fun _ => rfl) (fun _ => rfl) (fun _ => rfl) (fun _ => rfl) (fun _ => rfl) (fun _ => rfl)⟩
  refine ev_pop rfl rfl rfl ?_
  refine ev_aload_n rfl rfl rfl ?_
  refine ev_aload_n rfl rfl rfl ?_
  refine ev_iload_n rfl rfl rfl ?_
  refine ev_iconst (v := 1) rfl rfl (by decide) ?_
  refine ev_iadd rfl rfl ?_
  refine ev_iald rfl rfl rfl (ix_in h0 hi hL (by decide)) rfl ?_
  refine ev_aload_n rfl rfl rfl ?_
  refine ev_iload_n rfl rfl rfl ?_
  refine ev_iconst (v := 2) rfl rfl (by decide) ?_
  refine ev_iadd rfl rfl ?_
  refine ev_iald rfl rfl rfl (ix_in h0 hi hL (by decide)) rfl ?_
  refine ev_V2I (JW.refl (W := [(63, 13), (69, 999), (71, 999)]) hI1.1) rfl rfl rfl lk_L_55 vt_X10_crack rfl rfl rfl rfl rfl (w_X10_crack_63 L b h1 hI1.1 _ _ hI1.2.1 hI1.2.2.1) (fun r2 h2 q2 j2 k2 => ?_)
  obtain ⟨_, s0_, s1_⟩ := q2
  have hI2 : INV h2 := ⟨k2.1, s0_, s1_, Rel.call hI1.1 hI1.2.2.2 k2 rfl rfl rfl rfl (fun _ => rfl) (fun _ => rfl) (fun _ => rfl) (fun _ => rfl) (fun _ => rfl) (fun _ => rfl) (fun _ => rfl) (fun _ => rfl) (fun _ => rfl) (fun _ => rfl) (fun _ => rfl)⟩
  refine ev_pop rfl rfl rfl ?_
  refine ev_goto rfl rfl ?_
  exact kk h2 hI2 (SM.call (SM.call (SM.refl h) k1 (fun _ => rfl) rfl) k2 (fun _ => rfl) rfl)

set_option maxRecDepth 100000 in
set_option maxHeartbeats 4000000 in
theorem w_c_leak (L : Nat) (b : Bool) (h : Hp) (i : Int32) (kc ks : Nat) (hI : INV h) (h0 : 0 ≤ i.toInt) (hi : i.toInt + 8 ≤ (L : Int)) (hL : L ≤ 4096) (kk : ∀ h1, INV h1 → SM h1 h → EvQ mi_L_law 1426 [some (.ref 0), some (.ref 1), some (.ref 63), some (.int i)] [] (G0 L b) h1 kc ks QL) : EvQ mi_L_law 498 [some (.ref 0), some (.ref 1), some (.ref 63), some (.int i)] [] (G0 L b) h kc ks QL := by
  refine ev_aload_n rfl rfl rfl ?_
  refine ev_aload_n rfl rfl rfl ?_
  refine ev_iload_n rfl rfl rfl ?_
  refine ev_iconst (v := 1) rfl rfl (by decide) ?_
  refine ev_iadd rfl rfl ?_
  refine ev_iald rfl rfl rfl (ix_in h0 hi hL (by decide)) rfl ?_
  refine ev_aload_n rfl rfl rfl ?_
  refine ev_iload_n rfl rfl rfl ?_
  refine ev_iconst (v := 2) rfl rfl (by decide) ?_
  refine ev_iadd rfl rfl ?_
  refine ev_iald rfl rfl rfl (ix_in h0 hi hL (by decide)) rfl ?_
  refine ev_if_eq rfl rfl (fun c_509 => ?_) (fun c_509 => ?_)
  · refine ev_iconst (v := 0) rfl rfl (by decide) ?_
    refine ev_V2J (JW.refl (W := [(4, 6), (11, 1), (11, 2), (11, 3), (13, 999), (14, 999), (15, 999), (16, 999), (17, 999), (18, 999), (19, 999), (20, 999), (21, 999), (22, 999)]) hI.1) rfl rfl rfl lk_L_56 vt_X9_leak rfl rfl rfl rfl rfl (w_X9_leak_1 L b h hI.1 _ _ (by decide)) (fun r1 h1 q1 j1 k1 => ?_)
    have hI1 : INV h1 := ⟨k1.1, (sv_call hI.2.1 k1 rfl rfl), (KS.call hI.2.2.1 k1 (fun _ => rfl)), Rel.call hI.1 hI.2.2.2 k1 rfl rfl rfl rfl (fun _ => rfl) (fun _ => rfl) (fun _ => rfl) (fun _ => rfl) (fun _ => rfl) (fun _ => rfl) (fun _ => rfl) (fun _ => rfl) (fun _ => rfl) (fun _ => rfl) (fun _ => rfl)⟩
    refine ev_pop rfl rfl rfl ?_
    refine ev_aload_n rfl rfl rfl ?_
    refine ev_aload_n rfl rfl rfl ?_
    refine ev_iload_n rfl rfl rfl ?_
    refine ev_iconst (v := 1) rfl rfl (by decide) ?_
    refine ev_iadd rfl rfl ?_
    refine ev_iald rfl rfl rfl (ix_in h0 hi hL (by decide)) rfl ?_
    refine ev_aload_n rfl rfl rfl ?_
    refine ev_iload_n rfl rfl rfl ?_
    refine ev_iconst (v := 2) rfl rfl (by decide) ?_
    refine ev_iadd rfl rfl ?_
    refine ev_iald rfl rfl rfl (ix_in h0 hi hL (by decide)) rfl ?_
    refine ev_if_eq rfl rfl (fun c_532 => ?_) (fun c_532 => ?_)
    · refine ev_iconst (v := 0) rfl rfl (by decide) ?_
      refine ev_V2I (JW.refl (W := [(63, 13), (70, 999), (71, 999)]) hI1.1) rfl rfl rfl lk_L_60 vt_X10_leak rfl rfl rfl rfl rfl (w_X10_leak_63 L b h1 hI1.1 _ _ (by decide) hI1.2.1 hI1.2.2.1) (fun r2 h2 q2 j2 k2 => ?_)
      obtain ⟨_, s0_, s1_⟩ := q2
      have hI2 : INV h2 := ⟨k2.1, s0_, s1_, Rel.call hI1.1 hI1.2.2.2 k2 rfl rfl rfl rfl (fun _ => rfl) (fun _ => rfl) (fun _ => rfl) (fun _ => rfl) (fun _ => rfl) (fun _ => rfl) (fun _ => rfl) (fun _ => rfl) (fun _ => rfl) (fun _ => rfl) (fun _ => rfl)⟩
      refine ev_pop rfl rfl rfl ?_
      refine ev_goto rfl rfl ?_
      exact kk h2 hI2 (SM.call (SM.call (SM.refl h) k1 (fun _ => rfl) rfl) k2 (fun _ => rfl) rfl)
    · refine ev_iconst (v := 1) rfl rfl (by decide) ?_
      refine ev_goto rfl rfl ?_
      refine ev_V2I (JW.refl (W := [(63, 13), (70, 999), (71, 999)]) hI1.1) rfl rfl rfl lk_L_60 vt_X10_leak rfl rfl rfl rfl rfl (w_X10_leak_63 L b h1 hI1.1 _ _ (by decide) hI1.2.1 hI1.2.2.1) (fun r2 h2 q2 j2 k2 => ?_)
      obtain ⟨_, s0_, s1_⟩ := q2
      have hI2 : INV h2 := ⟨k2.1, s0_, s1_, Rel.call hI1.1 hI1.2.2.2 k2 rfl rfl rfl rfl (fun _ => rfl) (fun _ => rfl) (fun _ => rfl) (fun _ => rfl) (fun _ => rfl) (fun _ => rfl) (fun _ => rfl) (fun _ => rfl) (fun _ => rfl) (fun _ => rfl) (fun _ => rfl)⟩
      refine ev_pop rfl rfl rfl ?_
      refine ev_goto rfl rfl ?_
      exact kk h2 hI2 (SM.call (SM.call (SM.refl h) k1 (fun _ => rfl) rfl) k2 (fun _ => rfl) rfl)
  · refine ev_iconst (v := 1) rfl rfl (by decide) ?_
    refine ev_goto rfl rfl ?_
    refine ev_V2J (JW.refl (W := [(4, 6), (11, 1), (11, 2), (11, 3), (13, 999), (14, 999), (15, 999), (16, 999), (17, 999), (18, 999), (19, 999), (20, 999), (21, 999), (22, 999)]) hI.1) rfl rfl rfl lk_L_56 vt_X9_leak rfl rfl rfl rfl rfl (w_X9_leak_1 L b h hI.1 _ _ (by decide)) (fun r1 h1 q1 j1 k1 => ?_)
    have hI1 : INV h1 := ⟨k1.1, (sv_call hI.2.1 k1 rfl rfl), (KS.call hI.2.2.1 k1 (fun _ => rfl)), Rel.call hI.1 hI.2.2.2 k1 rfl rfl rfl rfl (fun _ => rfl) (fun _ => rfl) (fun _ => rfl) (fun _ => rfl) (fun _ => rfl) (fun _ => rfl) (fun _ => rfl) (fun _ => rfl) (fun _ => rfl) (fun _ => rfl) (fun _ => rfl)⟩
    refine ev_pop rfl rfl rfl ?_
    refine ev_aload_n rfl rfl rfl ?_
    refine ev_aload_n rfl rfl rfl ?_
    refine ev_iload_n rfl rfl rfl ?_
    refine ev_iconst (v := 1) rfl rfl (by decide) ?_
    refine ev_iadd rfl rfl ?_
    refine ev_iald rfl rfl rfl (ix_in h0 hi hL (by decide)) rfl ?_
    refine ev_aload_n rfl rfl rfl ?_
    refine ev_iload_n rfl rfl rfl ?_
    refine ev_iconst (v := 2) rfl rfl (by decide) ?_
    refine ev_iadd rfl rfl ?_
    refine ev_iald rfl rfl rfl (ix_in h0 hi hL (by decide)) rfl ?_
    refine ev_if_eq rfl rfl (fun c_532 => ?_) (fun c_532 => ?_)
    · refine ev_iconst (v := 0) rfl rfl (by decide) ?_
      refine ev_V2I (JW.refl (W := [(63, 13), (70, 999), (71, 999)]) hI1.1) rfl rfl rfl lk_L_60 vt_X10_leak rfl rfl rfl rfl rfl (w_X10_leak_63 L b h1 hI1.1 _ _ (by decide) hI1.2.1 hI1.2.2.1) (fun r2 h2 q2 j2 k2 => ?_)
      obtain ⟨_, s0_, s1_⟩ := q2
      have hI2 : INV h2 := ⟨k2.1, s0_, s1_, Rel.call hI1.1 hI1.2.2.2 k2 rfl rfl rfl rfl (fun _ => rfl) (fun _ => rfl) (fun _ => rfl) (fun _ => rfl) (fun _ => rfl) (fun _ => rfl) (fun _ => rfl) (fun _ => rfl) (fun _ => rfl) (fun _ => rfl) (fun _ => rfl)⟩
      refine ev_pop rfl rfl rfl ?_
      refine ev_goto rfl rfl ?_
      exact kk h2 hI2 (SM.call (SM.call (SM.refl h) k1 (fun _ => rfl) rfl) k2 (fun _ => rfl) rfl)
    · refine ev_iconst (v := 1) rfl rfl (by decide) ?_
      refine ev_goto rfl rfl ?_
      refine ev_V2I (JW.refl (W := [(63, 13), (70, 999), (71, 999)]) hI1.1) rfl rfl rfl lk_L_60 vt_X10_leak rfl rfl rfl rfl rfl (w_X10_leak_63 L b h1 hI1.1 _ _ (by decide) hI1.2.1 hI1.2.2.1) (fun r2 h2 q2 j2 k2 => ?_)
      obtain ⟨_, s0_, s1_⟩ := q2
      have hI2 : INV h2 := ⟨k2.1, s0_, s1_, Rel.call hI1.1 hI1.2.2.2 k2 rfl rfl rfl rfl (fun _ => rfl) (fun _ => rfl) (fun _ => rfl) (fun _ => rfl) (fun _ => rfl) (fun _ => rfl) (fun _ => rfl) (fun _ => rfl) (fun _ => rfl) (fun _ => rfl) (fun _ => rfl)⟩
      refine ev_pop rfl rfl rfl ?_
      refine ev_goto rfl rfl ?_
      exact kk h2 hI2 (SM.call (SM.call (SM.refl h) k1 (fun _ => rfl) rfl) k2 (fun _ => rfl) rfl)

set_option maxRecDepth 100000 in
set_option maxHeartbeats 4000000 in
theorem w_c_pitch (L : Nat) (b : Bool) (h : Hp) (i : Int32) (kc ks : Nat) (hI : INV h) (h0 : 0 ≤ i.toInt) (hi : i.toInt + 8 ≤ (L : Int)) (hL : L ≤ 4096) (kk : ∀ h1, INV h1 → SM h1 h → EvQ mi_L_law 1426 [some (.ref 0), some (.ref 1), some (.ref 63), some (.int i)] [] (G0 L b) h1 kc ks QL) : EvQ mi_L_law 547 [some (.ref 0), some (.ref 1), some (.ref 63), some (.int i)] [] (G0 L b) h kc ks QL := by
  refine ev_aload_n rfl rfl rfl ?_
  refine ev_aload_n rfl rfl rfl ?_
  refine ev_iload_n rfl rfl rfl ?_
  refine ev_iconst (v := 1) rfl rfl (by decide) ?_
  refine ev_iadd rfl rfl ?_
  refine ev_iald rfl rfl rfl (ix_in h0 hi hL (by decide)) rfl ?_
  refine ev_aload_n rfl rfl rfl ?_
  refine ev_iload_n rfl rfl rfl ?_
  refine ev_iconst (v := 2) rfl rfl (by decide) ?_
  refine ev_iadd rfl rfl ?_
  refine ev_iald rfl rfl rfl (ix_in h0 hi hL (by decide)) rfl ?_
  refine ev_V2P rfl rfl lk_L_61 vt_X9_pitch rfl rfl rfl rfl rfl (w_X9_pitch_1 L b h hI.1 _ _) (fun r1 q1 => ?_)
  refine ev_pop rfl rfl rfl ?_
  refine ev_aload_n rfl rfl rfl ?_
  refine ev_aload_n rfl rfl rfl ?_
  refine ev_iload_n rfl rfl rfl ?_
  refine ev_iconst (v := 1) rfl rfl (by decide) ?_
  refine ev_iadd rfl rfl ?_
  refine ev_iald rfl rfl rfl (ix_in h0 hi hL (by decide)) rfl ?_
  refine ev_aload_n rfl rfl rfl ?_
  refine ev_iload_n rfl rfl rfl ?_
  refine ev_iconst (v := 2) rfl rfl (by decide) ?_
  refine ev_iadd rfl rfl ?_
  refine ev_iald rfl rfl rfl (ix_in h0 hi hL (by decide)) rfl ?_
  refine ev_V2P rfl rfl lk_L_64 vt_X10_pitch rfl rfl rfl rfl rfl (w_X10_pitch_63 L b h hI.1 _ _) (fun r2 q2 => ?_)
  refine ev_pop rfl rfl rfl ?_
  refine ev_goto rfl rfl ?_
  exact kk h hI (SM.refl h)

set_option maxRecDepth 100000 in
set_option maxHeartbeats 4000000 in
theorem w_c_holds (L : Nat) (b : Bool) (h : Hp) (i : Int32) (kc ks : Nat) (hI : INV h) (h0 : 0 ≤ i.toInt) (hi : i.toInt + 8 ≤ (L : Int)) (hL : L ≤ 4096) (kk : ∀ h1, INV h1 → SM h1 h → EvQ mi_L_law 1426 [some (.ref 0), some (.ref 1), some (.ref 63), some (.int i)] [] (G0 L b) h1 kc ks QL) : EvQ mi_L_law 580 [some (.ref 0), some (.ref 1), some (.ref 63), some (.int i)] [] (G0 L b) h kc ks QL := by
  refine ev_aload_n rfl rfl rfl ?_
  refine ev_aload_n rfl rfl rfl ?_
  refine ev_iload_n rfl rfl rfl ?_
  refine ev_iconst (v := 1) rfl rfl (by decide) ?_
  refine ev_iadd rfl rfl ?_
  refine ev_iald rfl rfl rfl (ix_in h0 hi hL (by decide)) rfl ?_
  refine ev_aload_n rfl rfl rfl ?_
  refine ev_iload_n rfl rfl rfl ?_
  refine ev_iconst (v := 2) rfl rfl (by decide) ?_
  refine ev_iadd rfl rfl ?_
  refine ev_iald rfl rfl rfl (ix_in h0 hi hL (by decide)) rfl ?_
  refine ev_V2P rfl rfl lk_L_65 vt_X9_holds rfl rfl rfl rfl rfl (w_X9_holds_1 L b h hI.1 _ _) (fun r1 q1 => ?_)
  refine ev_pop rfl rfl rfl ?_
  refine ev_aload_n rfl rfl rfl ?_
  refine ev_aload_n rfl rfl rfl ?_
  refine ev_iload_n rfl rfl rfl ?_
  refine ev_iconst (v := 1) rfl rfl (by decide) ?_
  refine ev_iadd rfl rfl ?_
  refine ev_iald rfl rfl rfl (ix_in h0 hi hL (by decide)) rfl ?_
  refine ev_aload_n rfl rfl rfl ?_
  refine ev_iload_n rfl rfl rfl ?_
  refine ev_iconst (v := 2) rfl rfl (by decide) ?_
  refine ev_iadd rfl rfl ?_
  refine ev_iald rfl rfl rfl (ix_in h0 hi hL (by decide)) rfl ?_
  refine ev_V2P rfl rfl lk_L_68 vt_X10_holds rfl rfl rfl rfl rfl (w_X10_holds_63 L b h hI.1 _ _) (fun r2 q2 => ?_)
  refine ev_pop rfl rfl rfl ?_
  refine ev_goto rfl rfl ?_
  exact kk h hI (SM.refl h)

set_option maxRecDepth 100000 in
set_option maxHeartbeats 4000000 in
theorem w_c_tuneAll (L : Nat) (b : Bool) (h : Hp) (i : Int32) (kc ks : Nat) (hI : INV h) (h0 : 0 ≤ i.toInt) (hi : i.toInt + 8 ≤ (L : Int)) (hL : L ≤ 4096) (kk : ∀ h1, INV h1 → SM h1 h → EvQ mi_L_law 1426 [some (.ref 0), some (.ref 1), some (.ref 63), some (.int i)] [] (G0 L b) h1 kc ks QL) : EvQ mi_L_law 613 [some (.ref 0), some (.ref 1), some (.ref 63), some (.int i)] [] (G0 L b) h kc ks QL := by
  refine ev_aload_n rfl rfl rfl ?_
  refine ev_aload_n rfl rfl rfl ?_
  refine ev_iload_n rfl rfl rfl ?_
  refine ev_iconst (v := 1) rfl rfl (by decide) ?_
  refine ev_iadd rfl rfl ?_
  refine ev_iald rfl rfl rfl (ix_in h0 hi hL (by decide)) rfl ?_
  refine ev_V1J (JW.refl (W := [(9, 999), (11, 1), (11, 2), (11, 3), (13, 999), (14, 999), (15, 999), (16, 999), (17, 999), (18, 999), (19, 999), (20, 999), (21, 999), (22, 999)]) hI.1) rfl rfl rfl lk_L_69 vt_X9_tuneAll rfl rfl rfl rfl rfl (w_X9_tuneAll_1 L b h hI.1 _) (fun r1 h1 q1 j1 k1 => ?_)
  have hI1 : INV h1 := ⟨k1.1, (sv_call hI.2.1 k1 rfl rfl), (KS.call hI.2.2.1 k1 (fun _ => rfl)), Rel.call hI.1 hI.2.2.2 k1 rfl rfl rfl rfl (fun _ => rfl) (fun _ => rfl) (fun _ => rfl) (fun _ => rfl) (fun _ => rfl) (fun _ => rfl) (fun _ => rfl) (fun _ => rfl) (fun _ => rfl) (fun _ => rfl) (fun _ => rfl)⟩
  refine ev_pop rfl rfl rfl ?_
  refine ev_aload_n rfl rfl rfl ?_
  refine ev_aload_n rfl rfl rfl ?_
  refine ev_iload_n rfl rfl rfl ?_
  refine ev_iconst (v := 1) rfl rfl (by decide) ?_
  refine ev_iadd rfl rfl ?_
  refine ev_iald rfl rfl rfl (ix_in h0 hi hL (by decide)) rfl ?_
  refine ev_V1I (JW.refl (W := [(63, 13), (68, 999), (71, 999)]) hI1.1) rfl rfl rfl lk_L_72 vt_X10_tuneAll rfl rfl rfl rfl rfl (w_X10_tuneAll_63 L b h1 hI1.1 _ hI1.2.1 hI1.2.2.1) (fun r2 h2 q2 j2 k2 => ?_)
  obtain ⟨_, s0_, s1_⟩ := q2
  have hI2 : INV h2 := ⟨k2.1, s0_, s1_, Rel.call hI1.1 hI1.2.2.2 k2 rfl rfl rfl rfl (fun _ => rfl) (fun _ => rfl) (fun _ => rfl) (fun _ => rfl) (fun _ => rfl) (fun _ => rfl) (fun _ => rfl) (fun _ => rfl) (fun _ => rfl) (fun _ => rfl) (fun _ => rfl)⟩
  refine ev_pop rfl rfl rfl ?_
  refine ev_goto rfl rfl ?_
  exact kk h2 hI2 (SM.call (SM.call (SM.refl h) k1 (fun _ => rfl) rfl) k2 (fun _ => rfl) rfl)

set_option maxRecDepth 100000 in
set_option maxHeartbeats 4000000 in
theorem w_c_agree (L : Nat) (b : Bool) (h : Hp) (i : Int32) (kc ks : Nat) (hI : INV h) (h0 : 0 ≤ i.toInt) (hi : i.toInt + 8 ≤ (L : Int)) (hL : L ≤ 4096) (kk : ∀ h1, INV h1 → SM h1 h → EvQ mi_L_law 1426 [some (.ref 0), some (.ref 1), some (.ref 63), some (.int i)] [] (G0 L b) h1 kc ks QL) : EvQ mi_L_law 636 [some (.ref 0), some (.ref 1), some (.ref 63), some (.int i)] [] (G0 L b) h kc ks QL := by
  refine ev_aload_n rfl rfl rfl ?_
  refine ev_aload_n rfl rfl rfl ?_
  refine ev_iload_n rfl rfl rfl ?_
  refine ev_iconst (v := 1) rfl rfl (by decide) ?_
  refine ev_iadd rfl rfl ?_
  refine ev_iald rfl rfl rfl (ix_in h0 hi hL (by decide)) rfl ?_
  refine ev_V1P rfl rfl lk_L_73 vt_X9_agree rfl rfl rfl rfl rfl (w_X9_agree_1 L b h hI.1 _) (fun r1 q1 => ?_)
  refine ev_pop rfl rfl rfl ?_
  refine ev_aload_n rfl rfl rfl ?_
  refine ev_aload_n rfl rfl rfl ?_
  refine ev_iload_n rfl rfl rfl ?_
  refine ev_iconst (v := 1) rfl rfl (by decide) ?_
  refine ev_iadd rfl rfl ?_
  refine ev_iald rfl rfl rfl (ix_in h0 hi hL (by decide)) rfl ?_
  refine ev_V1P rfl rfl lk_L_76 vt_X10_agree rfl rfl rfl rfl rfl (w_X10_agree_63 L b h hI.1 _) (fun r2 q2 => ?_)
  refine ev_pop rfl rfl rfl ?_
  refine ev_goto rfl rfl ?_
  exact kk h hI (SM.refl h)

set_option maxRecDepth 100000 in
set_option maxHeartbeats 4000000 in
theorem w_c_feed (L : Nat) (b : Bool) (h : Hp) (i : Int32) (kc ks : Nat) (hI : INV h) (h0 : 0 ≤ i.toInt) (hi : i.toInt + 8 ≤ (L : Int)) (hL : L ≤ 4096) (kk : ∀ h1, INV h1 → SM h1 h → EvQ mi_L_law 1426 [some (.ref 0), some (.ref 1), some (.ref 63), some (.int i)] [] (G0 L b) h1 kc ks QL) : EvQ mi_L_law 659 [some (.ref 0), some (.ref 1), some (.ref 63), some (.int i)] [] (G0 L b) h kc ks QL := by
  refine ev_aload_n rfl rfl rfl ?_
  refine ev_aload_n rfl rfl rfl ?_
  refine ev_iload_n rfl rfl rfl ?_
  refine ev_iconst (v := 1) rfl rfl (by decide) ?_
  refine ev_iadd rfl rfl ?_
  refine ev_iald rfl rfl rfl (ix_in h0 hi hL (by decide)) rfl ?_
  refine ev_i2l rfl rfl ?_
  refine ev_bipush (v := 32) rfl rfl (by decide) ?_
  refine ev_lshl rfl rfl ?_
  refine ev_aload_n rfl rfl rfl ?_
  refine ev_iload_n rfl rfl rfl ?_
  refine ev_iconst (v := 2) rfl rfl (by decide) ?_
  refine ev_iadd rfl rfl ?_
  refine ev_iald rfl rfl rfl (ix_in h0 hi hL (by decide)) rfl ?_
  refine ev_i2l rfl rfl ?_
  refine ev_ldc2 rfl rfl kc_L_77 ?_
  refine ev_land rfl rfl ?_
  refine ev_lor rfl rfl ?_
  refine ev_V1I (JW.refl (W := [(23, 1), (24, 999)]) hI.1) rfl rfl rfl lk_L_79 vt_X9_feed rfl rfl rfl rfl rfl (w_feedC L b h hI.1 _ (B.nI (u := 160) (hI.1 23 1)).2 (B.nI (u := 160) (hI.1 23 1)).1 _) (fun r1 h1 q1 j1 k1 => ?_)
  have sc : ∀ j, h1 0 j = h 0 j := fun j => k1.2 0 j rfl
  refine ev_pop rfl rfl rfl ?_
  refine ev_aload_n rfl rfl rfl ?_
  refine ev_aload_n rfl rfl rfl ?_
  refine ev_iload_n rfl rfl rfl ?_
  refine ev_iconst (v := 1) rfl rfl (by decide) ?_
  refine ev_iadd rfl rfl ?_
  refine ev_iald rfl rfl rfl (ix_in h0 hi hL (by decide)) rfl ?_
  refine ev_i2l rfl rfl ?_
  refine ev_bipush (v := 32) rfl rfl (by decide) ?_
  refine ev_lshl rfl rfl ?_
  refine ev_aload_n rfl rfl rfl ?_
  refine ev_iload_n rfl rfl rfl ?_
  refine ev_iconst (v := 2) rfl rfl (by decide) ?_
  refine ev_iadd rfl rfl ?_
  refine ev_iald rfl rfl rfl (ix_in h0 hi hL (by decide)) rfl ?_
  refine ev_i2l rfl rfl ?_
  refine ev_ldc2 rfl rfl kc_L_77 ?_
  refine ev_land rfl rfl ?_
  refine ev_lor rfl rfl ?_
  refine ev_V1I (JW.refl (W := [(63, 16), (72, 999)]) k1.1) rfl rfl rfl lk_L_83 vt_X10_feed rfl rfl rfl rfl rfl (w_feedM L b h1 k1.1 _ (B.nI (u := 160) (hI.1 23 1)).2 ((k1.2 63 16 rfl).trans (hI.2.2.2.1.symm.trans (B.nI (u := 160) (hI.1 23 1)).1)) _) (fun r2 h2 q2 j2 k2 => ?_)
  simp only [sc] at q2
  have rl := rel_feed hI.1 hI.2.2.2 _ k1 k2 (B.nI (u := 160) (hI.1 23 1)).2 (B.nI (u := 160) (hI.1 23 1)).1 q1 q2
  have er := rl.1
  have hI2 : INV h2 := ⟨k2.1, sv_call (sv_call hI.2.1 k1 rfl rfl) k2 rfl rfl, KS.call (KS.call hI.2.2.1 k1 (fun _ => rfl)) k2 (fun _ => rfl), rl.2⟩
  refine ev_pop rfl rfl rfl ?_
  refine ev_goto rfl rfl ?_
  exact kk h2 hI2 (SM.call (SM.call (SM.refl h) k1 (fun _ => rfl) rfl) k2 (fun _ => rfl) rfl)

set_option maxRecDepth 100000 in
set_option maxHeartbeats 4000000 in
theorem w_c_end (L : Nat) (b : Bool) (h : Hp) (i : Int32) (kc ks : Nat) (hI : INV h) (h0 : 0 ≤ i.toInt) (hi : i.toInt + 8 ≤ (L : Int)) (hL : L ≤ 4096) (kk : ∀ h1, INV h1 → SM h1 h → EvQ mi_L_law 1426 [some (.ref 0), some (.ref 1), some (.ref 63), some (.int i)] [] (G0 L b) h1 kc ks QL) : EvQ mi_L_law 712 [some (.ref 0), some (.ref 1), some (.ref 63), some (.int i)] [] (G0 L b) h kc ks QL := by
  refine ev_aload_n rfl rfl rfl ?_
  refine ev_aload_n rfl rfl rfl ?_
  refine ev_iload_n rfl rfl rfl ?_
  refine ev_iconst (v := 1) rfl rfl (by decide) ?_
  refine ev_iadd rfl rfl ?_
  refine ev_iald rfl rfl rfl (ix_in h0 hi hL (by decide)) rfl ?_
  refine ev_V1I (JW.refl (W := [(23, 1)]) hI.1) rfl rfl rfl lk_L_84 vt_X9_end rfl rfl rfl rfl rfl (w_endC L b h hI.1 _) (fun r1 h1 q1 j1 k1 => ?_)
  have sc : ∀ j, h1 0 j = h 0 j := fun j => k1.2 0 j rfl
  refine ev_pop rfl rfl rfl ?_
  refine ev_aload_n rfl rfl rfl ?_
  refine ev_aload_n rfl rfl rfl ?_
  refine ev_iload_n rfl rfl rfl ?_
  refine ev_iconst (v := 1) rfl rfl (by decide) ?_
  refine ev_iadd rfl rfl ?_
  refine ev_iald rfl rfl rfl (ix_in h0 hi hL (by decide)) rfl ?_
  refine ev_V1I (JW.refl (W := [(63, 16)]) k1.1) rfl rfl rfl lk_L_87 vt_X10_end rfl rfl rfl rfl rfl (w_endM L b h1 k1.1 _) (fun r2 h2 q2 j2 k2 => ?_)
  simp only [sc] at q2
  obtain ⟨e1, f1⟩ := q1
  obtain ⟨e2, f2⟩ := q2
  have er : r1 = r2 := by rw [e1, e2]; (try rw [f1]); exact (rel_end hI.1 hI.2.2.2 _).1
  have hR2 : Rel h2 := by rw [f2, f1]; exact (rel_end hI.1 hI.2.2.2 _).2
  have hI2 : INV h2 := ⟨k2.1, sv_call (sv_call hI.2.1 k1 rfl rfl) k2 rfl rfl, KS.call (KS.call hI.2.2.1 k1 (fun _ => rfl)) k2 (fun _ => rfl), hR2⟩
  refine ev_pop rfl rfl rfl ?_
  refine ev_goto rfl rfl ?_
  exact kk h2 hI2 (SM.call (SM.call (SM.refl h) k1 (fun _ => rfl) rfl) k2 (fun _ => rfl) rfl)

set_option maxRecDepth 100000 in
set_option maxHeartbeats 4000000 in
theorem w_c_tune (L : Nat) (b : Bool) (h : Hp) (i : Int32) (kc ks : Nat) (hI : INV h) (h0 : 0 ≤ i.toInt) (hi : i.toInt + 8 ≤ (L : Int)) (hL : L ≤ 4096) (kk : ∀ h1, INV h1 → SM h1 h → EvQ mi_L_law 1426 [some (.ref 0), some (.ref 1), some (.ref 63), some (.int i)] [] (G0 L b) h1 kc ks QL) : EvQ mi_L_law 735 [some (.ref 0), some (.ref 1), some (.ref 63), some (.int i)] [] (G0 L b) h kc ks QL := by
  obtain ⟨t, et, ht6⟩ : ∃ t : Nat, h 28 2 = nI t ∧ t ≤ 6 := ⟨_, (B.nI (u := 6) (hI.1 28 2)).1, (B.nI (u := 6) (hI.1 28 2)).2⟩
  obtain ⟨n, e1, hn⟩ : ∃ n : Nat, h 23 1 = nI n ∧ n ≤ 160 := ⟨_, (B.nI (u := 160) (hI.1 23 1)).1, (B.nI (u := 160) (hI.1 23 1)).2⟩
  have hS : ∀ j, j < n → SB (h 24 j) (h 72 j) := fun j hj => (RT_ hI.2.2.2).2.1 j (by rw [e1, nI_clamp (by omega)]; exact hj)
  by_cases ht : t < 6
  · skip
    refine ev_aload_n rfl rfl rfl ?_
    refine ev_V0I (JW.refl (W := [(23, 1), (23, 2), (23, 3), (23, 4), (23, 5), (23, 6), (23, 7), (23, 8), (23, 10), (23, 13), (25, 999), (26, 999), (27, 999), (28, 2), (30, 999), (31, 999), (32, 999), (33, 999), (34, 999), (35, 999), (36, 999)]) hI.1) rfl rfl rfl lk_L_88 vt_X9_tune rfl rfl rfl rfl rfl (w_tuneC L b h hI.1 n hn e1 t ht6 et ht) (fun r1 h1 q1 j1 k1 => ?_)
    refine ev_pop rfl rfl rfl ?_
    refine ev_aload_n rfl rfl rfl ?_
    refine ev_V0I (JW.refl (W := [(63, 16), (63, 17), (63, 18), (63, 19), (63, 20), (63, 21), (63, 22), (63, 23), (63, 27), (63, 28), (63, 31), (73, 999), (74, 999), (75, 999), (76, 999), (77, 999)]) k1.1) rfl rfl rfl lk_L_92 vt_X10_tune rfl rfl rfl rfl rfl (w_tuneM L b h1 k1.1 n hn ((k1.2 63 16 rfl).trans ((RT_ hI.2.2.2).1.symm.trans e1)) (h 72) (fun j => k1.2 72 j rfl) (h 25) t ht6 ((k1.2 63 23 rfl).trans ((RT_ hI.2.2.2).2.2.1.symm.trans et)) ht) (fun r2 h2 q2 j2 k2 => ?_)
    rw [run_cg hS] at q1
    have hT2 : RTU h2 := rel_tune hI.1 (RT_ hI.2.2.2) ht et k1 k2 (fun x hx => p_run_le _ _ hx) q1 q2
    have hI2 : INV h2 := ⟨k2.1, sv_call (sv_call hI.2.1 k1 rfl rfl) k2 rfl rfl, KS.call (KS.call hI.2.2.1 k1 (fun _ => rfl)) k2 (fun _ => rfl), hT2⟩
    refine ev_pop rfl rfl rfl ?_
    refine ev_goto rfl rfl ?_
    exact kk h2 hI2 (SM.call (SM.call (SM.refl h) k1 (fun _ => rfl) rfl) k2 (fun _ => rfl) rfl)
  · have et6 : h 28 2 = 6 := by rw [et, show t = 6 by omega]; rfl
    refine ev_aload_n rfl rfl rfl ?_
    refine ev_V0D rfl rfl lk_L_88 vt_X9_tune rfl rfl rfl rfl rfl (c_tuneFull L b h et6) ?_
    refine ev_pop rfl rfl rfl ?_
    refine ev_aload_n rfl rfl rfl ?_
    refine ev_V0D rfl rfl lk_L_92 vt_X10_tune rfl rfl rfl rfl rfl (c_mtuneFull L b h ((RT_ hI.2.2.2).2.2.1.symm.trans et6)) ?_
    refine ev_pop rfl rfl rfl ?_
    refine ev_goto rfl rfl ?_
    exact kk h hI (SM.refl h)

set_option maxRecDepth 100000 in
set_option maxHeartbeats 4000000 in
theorem w_c_fault (L : Nat) (b : Bool) (h : Hp) (i : Int32) (kc ks : Nat) (hI : INV h) (h0 : 0 ≤ i.toInt) (hi : i.toInt + 8 ≤ (L : Int)) (hL : L ≤ 4096) (kk : ∀ h1, INV h1 → SM h1 h → EvQ mi_L_law 1426 [some (.ref 0), some (.ref 1), some (.ref 63), some (.int i)] [] (G0 L b) h1 kc ks QL) : EvQ mi_L_law 748 [some (.ref 0), some (.ref 1), some (.ref 63), some (.int i)] [] (G0 L b) h kc ks QL := by
  refine ev_aload_n rfl rfl rfl ?_
  refine ev_V0P rfl rfl lk_L_93 vt_X9_fault rfl rfl rfl rfl rfl (w_X9_fault_1 L b h hI.1) (fun r1 q1 => ?_)
  refine ev_pop rfl rfl rfl ?_
  refine ev_aload_n rfl rfl rfl ?_
  refine ev_V0P rfl rfl lk_L_96 vt_X10_fault rfl rfl rfl rfl rfl (w_X10_fault_63 L b h hI.1) (fun r2 q2 => ?_)
  refine ev_pop rfl rfl rfl ?_
  refine ev_goto rfl rfl ?_
  exact kk h hI (SM.refl h)

set_option maxRecDepth 100000 in
set_option maxHeartbeats 4000000 in
theorem w_c_tuneOf (L : Nat) (b : Bool) (h : Hp) (i : Int32) (kc ks : Nat) (hI : INV h) (h0 : 0 ≤ i.toInt) (hi : i.toInt + 8 ≤ (L : Int)) (hL : L ≤ 4096) (kk : ∀ h1, INV h1 → SM h1 h → EvQ mi_L_law 1426 [some (.ref 0), some (.ref 1), some (.ref 63), some (.int i)] [] (G0 L b) h1 kc ks QL) : EvQ mi_L_law 761 [some (.ref 0), some (.ref 1), some (.ref 63), some (.int i)] [] (G0 L b) h kc ks QL := by
  refine ev_aload_n rfl rfl rfl ?_
  refine ev_aload_n rfl rfl rfl ?_
  refine ev_iload_n rfl rfl rfl ?_
  refine ev_iconst (v := 1) rfl rfl (by decide) ?_
  refine ev_iadd rfl rfl ?_
  refine ev_iald rfl rfl rfl (ix_in h0 hi hL (by decide)) rfl ?_
  refine ev_aload_n rfl rfl rfl ?_
  refine ev_iload_n rfl rfl rfl ?_
  refine ev_iconst (v := 2) rfl rfl (by decide) ?_
  refine ev_iadd rfl rfl ?_
  refine ev_iald rfl rfl rfl (ix_in h0 hi hL (by decide)) rfl ?_
  refine ev_V2D rfl rfl lk_L_97 vt_X9_tuneOf rfl rfl rfl rfl rfl (x_tof L b h hI.1 _ _) ?_
  refine ev_aload_n rfl rfl rfl ?_
  refine ev_aload_n rfl rfl rfl ?_
  refine ev_iload_n rfl rfl rfl ?_
  refine ev_iconst (v := 1) rfl rfl (by decide) ?_
  refine ev_iadd rfl rfl ?_
  refine ev_iald rfl rfl rfl (ix_in h0 hi hL (by decide)) rfl ?_
  refine ev_aload_n rfl rfl rfl ?_
  refine ev_iload_n rfl rfl rfl ?_
  refine ev_iconst (v := 2) rfl rfl (by decide) ?_
  refine ev_iadd rfl rfl ?_
  refine ev_iald rfl rfl rfl (ix_in h0 hi hL (by decide)) rfl ?_
  refine ev_V2D rfl rfl lk_L_100 vt_X10_tuneOf rfl rfl rfl rfl rfl (c_mtof L b h hI.1 _ _) ?_
  refine ev_icmp_eq rfl rfl (fun c_789 => ?_) (fun z_ => absurd (rel_tof hI.1 hI.2.2.2 _ _) z_)
  exact kk h hI (SM.refl h)

set_option maxRecDepth 100000 in
set_option maxHeartbeats 4000000 in
theorem w_c_play (L : Nat) (b : Bool) (h : Hp) (i : Int32) (kc ks : Nat) (hI : INV h) (h0 : 0 ≤ i.toInt) (hi : i.toInt + 8 ≤ (L : Int)) (hL : L ≤ 4096) (kk : ∀ h1, INV h1 → SM h1 h → EvQ mi_L_law 1426 [some (.ref 0), some (.ref 1), some (.ref 63), some (.int i)] [] (G0 L b) h1 kc ks QL) : EvQ mi_L_law 794 [some (.ref 0), some (.ref 1), some (.ref 63), some (.int i)] [] (G0 L b) h kc ks QL := by
  refine ev_aload_n rfl rfl rfl ?_
  refine ev_aload_n rfl rfl rfl ?_
  refine ev_iload_n rfl rfl rfl ?_
  refine ev_iconst (v := 1) rfl rfl (by decide) ?_
  refine ev_iadd rfl rfl ?_
  refine ev_iald rfl rfl rfl (ix_in h0 hi hL (by decide)) rfl ?_
  refine ev_aload_n rfl rfl rfl ?_
  refine ev_iload_n rfl rfl rfl ?_
  refine ev_iconst (v := 2) rfl rfl (by decide) ?_
  refine ev_iadd rfl rfl ?_
  refine ev_iald rfl rfl rfl (ix_in h0 hi hL (by decide)) rfl ?_
  refine ev_V2J (JW.refl (W := [(2, 0), (2, 1), (2, 2), (2, 3), (2, 4), (3, 0), (3, 1), (3, 2), (3, 3), (3, 4), (11, 1), (11, 2), (11, 3), (13, 999), (14, 999), (15, 999), (16, 999), (17, 999), (18, 999), (19, 999), (20, 999), (21, 999), (22, 999)]) hI.1) rfl rfl rfl lk_L_101 vt_X9_play rfl rfl rfl rfl rfl (w_X9_play_1 L b h hI.1 _ _) (fun r1 h1 q1 j1 k1 => ?_)
  have hI1 : INV h1 := ⟨k1.1, (sv_call hI.2.1 k1 rfl rfl), (KS.call hI.2.2.1 k1 (fun _ => rfl)), Rel.call hI.1 hI.2.2.2 k1 rfl rfl rfl rfl (fun _ => rfl) (fun _ => rfl) (fun _ => rfl) (fun _ => rfl) (fun _ => rfl) (fun _ => rfl) (fun _ => rfl) (fun _ => rfl) (fun _ => rfl) (fun _ => rfl) (fun _ => rfl)⟩
  refine ev_pop rfl rfl rfl ?_
  refine ev_aload_n rfl rfl rfl ?_
  refine ev_aload_n rfl rfl rfl ?_
  refine ev_iload_n rfl rfl rfl ?_
  refine ev_iconst (v := 1) rfl rfl (by decide) ?_
  refine ev_iadd rfl rfl ?_
  refine ev_iald rfl rfl rfl (ix_in h0 hi hL (by decide)) rfl ?_
  refine ev_aload_n rfl rfl rfl ?_
  refine ev_iload_n rfl rfl rfl ?_
  refine ev_iconst (v := 2) rfl rfl (by decide) ?_
  refine ev_iadd rfl rfl ?_
  refine ev_iald rfl rfl rfl (ix_in h0 hi hL (by decide)) rfl ?_
  refine ev_V2I (JW.refl (W := [(63, 0), (63, 1), (63, 4), (63, 13), (71, 999)]) hI1.1) rfl rfl rfl lk_L_104 vt_X10_play rfl rfl rfl rfl rfl (w_X10_play_63 L b h1 hI1.1 _ _ hI1.2.1 hI1.2.2.1) (fun r2 h2 q2 j2 k2 => ?_)
  obtain ⟨_, s0_, s1_⟩ := q2
  have hI2 : INV h2 := ⟨k2.1, s0_, s1_, Rel.call hI1.1 hI1.2.2.2 k2 rfl rfl rfl rfl (fun _ => rfl) (fun _ => rfl) (fun _ => rfl) (fun _ => rfl) (fun _ => rfl) (fun _ => rfl) (fun _ => rfl) (fun _ => rfl) (fun _ => rfl) (fun _ => rfl) (fun _ => rfl)⟩
  refine ev_pop rfl rfl rfl ?_
  refine ev_goto rfl rfl ?_
  exact kk h2 hI2 (SM.call (SM.call (SM.refl h) k1 (fun _ => rfl) rfl) k2 (fun _ => rfl) rfl)

set_option maxRecDepth 100000 in
set_option maxHeartbeats 4000000 in
theorem w_c_would (L : Nat) (b : Bool) (h : Hp) (i : Int32) (kc ks : Nat) (hI : INV h) (h0 : 0 ≤ i.toInt) (hi : i.toInt + 8 ≤ (L : Int)) (hL : L ≤ 4096) (kk : ∀ h1, INV h1 → SM h1 h → EvQ mi_L_law 1426 [some (.ref 0), some (.ref 1), some (.ref 63), some (.int i)] [] (G0 L b) h1 kc ks QL) : EvQ mi_L_law 827 [some (.ref 0), some (.ref 1), some (.ref 63), some (.int i)] [] (G0 L b) h kc ks QL := by
  refine ev_aload_n rfl rfl rfl ?_
  refine ev_aload_n rfl rfl rfl ?_
  refine ev_iload_n rfl rfl rfl ?_
  refine ev_iconst (v := 1) rfl rfl (by decide) ?_
  refine ev_iadd rfl rfl ?_
  refine ev_iald rfl rfl rfl (ix_in h0 hi hL (by decide)) rfl ?_
  refine ev_aload_n rfl rfl rfl ?_
  refine ev_iload_n rfl rfl rfl ?_
  refine ev_iconst (v := 2) rfl rfl (by decide) ?_
  refine ev_iadd rfl rfl ?_
  refine ev_iald rfl rfl rfl (ix_in h0 hi hL (by decide)) rfl ?_
  refine ev_V2J (JW.refl (W := [(3, 0), (3, 1), (3, 2), (3, 3), (3, 4)]) hI.1) rfl rfl rfl lk_L_105 vt_X9_would rfl rfl rfl rfl rfl (w_X9_would_1 L b h hI.1 _ _) (fun r1 h1 q1 j1 k1 => ?_)
  have hI1 : INV h1 := ⟨k1.1, (sv_call hI.2.1 k1 rfl rfl), (KS.call hI.2.2.1 k1 (fun _ => rfl)), Rel.call hI.1 hI.2.2.2 k1 rfl rfl rfl rfl (fun _ => rfl) (fun _ => rfl) (fun _ => rfl) (fun _ => rfl) (fun _ => rfl) (fun _ => rfl) (fun _ => rfl) (fun _ => rfl) (fun _ => rfl) (fun _ => rfl) (fun _ => rfl)⟩
  refine ev_pop rfl rfl rfl ?_
  refine ev_aload_n rfl rfl rfl ?_
  refine ev_aload_n rfl rfl rfl ?_
  refine ev_iload_n rfl rfl rfl ?_
  refine ev_iconst (v := 1) rfl rfl (by decide) ?_
  refine ev_iadd rfl rfl ?_
  refine ev_iald rfl rfl rfl (ix_in h0 hi hL (by decide)) rfl ?_
  refine ev_aload_n rfl rfl rfl ?_
  refine ev_iload_n rfl rfl rfl ?_
  refine ev_iconst (v := 2) rfl rfl (by decide) ?_
  refine ev_iadd rfl rfl ?_
  refine ev_iald rfl rfl rfl (ix_in h0 hi hL (by decide)) rfl ?_
  refine ev_V2I (JW.refl (W := [(63, 0), (63, 1), (63, 4)]) hI1.1) rfl rfl rfl lk_L_108 vt_X10_would rfl rfl rfl rfl rfl (w_X10_would_63 L b h1 hI1.1 _ _ hI1.2.1) (fun r2 h2 q2 j2 k2 => ?_)
  obtain ⟨_, s0_⟩ := q2
  have hI2 : INV h2 := ⟨k2.1, s0_, (KS.call hI1.2.2.1 k2 (fun _ => rfl)), Rel.call hI1.1 hI1.2.2.2 k2 rfl rfl rfl rfl (fun _ => rfl) (fun _ => rfl) (fun _ => rfl) (fun _ => rfl) (fun _ => rfl) (fun _ => rfl) (fun _ => rfl) (fun _ => rfl) (fun _ => rfl) (fun _ => rfl) (fun _ => rfl)⟩
  refine ev_pop rfl rfl rfl ?_
  refine ev_goto rfl rfl ?_
  exact kk h2 hI2 (SM.call (SM.call (SM.refl h) k1 (fun _ => rfl) rfl) k2 (fun _ => rfl) rfl)

set_option maxRecDepth 100000 in
set_option maxHeartbeats 4000000 in
theorem w_c_key (L : Nat) (b : Bool) (h : Hp) (i : Int32) (kc ks : Nat) (hI : INV h) (h0 : 0 ≤ i.toInt) (hi : i.toInt + 8 ≤ (L : Int)) (hL : L ≤ 4096) (kk : ∀ h1, INV h1 → SM h1 h → EvQ mi_L_law 1426 [some (.ref 0), some (.ref 1), some (.ref 63), some (.int i)] [] (G0 L b) h1 kc ks QL) : EvQ mi_L_law 860 [some (.ref 0), some (.ref 1), some (.ref 63), some (.int i)] [] (G0 L b) h kc ks QL := by
  refine ev_aload_n rfl rfl rfl ?_
  refine ev_aload_n rfl rfl rfl ?_
  refine ev_iload_n rfl rfl rfl ?_
  refine ev_iconst (v := 1) rfl rfl (by decide) ?_
  refine ev_iadd rfl rfl ?_
  refine ev_iald rfl rfl rfl (ix_in h0 hi hL (by decide)) rfl ?_
  refine ev_aload_n rfl rfl rfl ?_
  refine ev_iload_n rfl rfl rfl ?_
  refine ev_iconst (v := 2) rfl rfl (by decide) ?_
  refine ev_iadd rfl rfl ?_
  refine ev_iald rfl rfl rfl (ix_in h0 hi hL (by decide)) rfl ?_
  refine ev_V2J (JW.refl (W := [(3, 0), (3, 1), (3, 2), (3, 3), (3, 4)]) hI.1) rfl rfl rfl lk_L_109 vt_X9_key rfl rfl rfl rfl rfl (w_X9_key_1 L b h hI.1 _ _) (fun r1 h1 q1 j1 k1 => ?_)
  have hI1 : INV h1 := ⟨k1.1, (sv_call hI.2.1 k1 rfl rfl), (KS.call hI.2.2.1 k1 (fun _ => rfl)), Rel.call hI.1 hI.2.2.2 k1 rfl rfl rfl rfl (fun _ => rfl) (fun _ => rfl) (fun _ => rfl) (fun _ => rfl) (fun _ => rfl) (fun _ => rfl) (fun _ => rfl) (fun _ => rfl) (fun _ => rfl) (fun _ => rfl) (fun _ => rfl)⟩
  refine ev_pop rfl rfl rfl ?_
  refine ev_aload_n rfl rfl rfl ?_
  refine ev_aload_n rfl rfl rfl ?_
  refine ev_iload_n rfl rfl rfl ?_
  refine ev_iconst (v := 1) rfl rfl (by decide) ?_
  refine ev_iadd rfl rfl ?_
  refine ev_iald rfl rfl rfl (ix_in h0 hi hL (by decide)) rfl ?_
  refine ev_aload_n rfl rfl rfl ?_
  refine ev_iload_n rfl rfl rfl ?_
  refine ev_iconst (v := 2) rfl rfl (by decide) ?_
  refine ev_iadd rfl rfl ?_
  refine ev_iald rfl rfl rfl (ix_in h0 hi hL (by decide)) rfl ?_
  refine ev_V2I (JW.refl (W := [(63, 0), (63, 1), (63, 4)]) hI1.1) rfl rfl rfl lk_L_112 vt_X10_key rfl rfl rfl rfl rfl (w_X10_key_63 L b h1 hI1.1 _ _ hI1.2.1) (fun r2 h2 q2 j2 k2 => ?_)
  obtain ⟨_, s0_⟩ := q2
  have hI2 : INV h2 := ⟨k2.1, s0_, (KS.call hI1.2.2.1 k2 (fun _ => rfl)), Rel.call hI1.1 hI1.2.2.2 k2 rfl rfl rfl rfl (fun _ => rfl) (fun _ => rfl) (fun _ => rfl) (fun _ => rfl) (fun _ => rfl) (fun _ => rfl) (fun _ => rfl) (fun _ => rfl) (fun _ => rfl) (fun _ => rfl) (fun _ => rfl)⟩
  refine ev_pop rfl rfl rfl ?_
  refine ev_goto rfl rfl ?_
  exact kk h2 hI2 (SM.call (SM.call (SM.refl h) k1 (fun _ => rfl) rfl) k2 (fun _ => rfl) rfl)

set_option maxRecDepth 100000 in
set_option maxHeartbeats 4000000 in
theorem w_c_setT (L : Nat) (h : Hp) (i : Int32) (kc ks : Nat) (hI : INV h) (h0 : 0 ≤ i.toInt) (hi : i.toInt + 8 ≤ (L : Int)) (hL : L ≤ 4096) (kk : ∀ h1, INV h1 → EvQ mi_L_law 1426 [some (.ref 0), some (.ref 1), some (.ref 63), some (.int i)] [] (G0 L true) h1 kc ks QL) : EvQ mi_L_law 893 [some (.ref 0), some (.ref 1), some (.ref 63), some (.int i)] [] (G0 L true) h kc ks QL := by
  refine ev_aload_n rfl rfl rfl ?_
  refine ev_aload_n rfl rfl rfl ?_
  refine ev_iload_n rfl rfl rfl ?_
  refine ev_iconst (v := 1) rfl rfl (by decide) ?_
  refine ev_iadd rfl rfl ?_
  refine ev_iald rfl rfl rfl (ix_in h0 hi hL (by decide)) rfl ?_
  refine ev_aload_n rfl rfl rfl ?_
  refine ev_iload_n rfl rfl rfl ?_
  refine ev_iconst (v := 2) rfl rfl (by decide) ?_
  refine ev_iadd rfl rfl ?_
  refine ev_iald rfl rfl rfl (ix_in h0 hi hL (by decide)) rfl ?_
  refine ev_aload_n rfl rfl rfl ?_
  refine ev_iload_n rfl rfl rfl ?_
  refine ev_iconst (v := 3) rfl rfl (by decide) ?_
  refine ev_iadd rfl rfl ?_
  refine ev_iald rfl rfl rfl (ix_in h0 hi hL (by decide)) rfl ?_
  refine ev_aload_n rfl rfl rfl ?_
  refine ev_iload_n rfl rfl rfl ?_
  refine ev_iconst (v := 4) rfl rfl (by decide) ?_
  refine ev_iadd rfl rfl ?_
  refine ev_iald rfl rfl rfl (ix_in h0 hi hL (by decide)) rfl ?_
  refine ev_aload_n rfl rfl rfl ?_
  refine ev_iload_n rfl rfl rfl ?_
  refine ev_iconst (v := 5) rfl rfl (by decide) ?_
  refine ev_iadd rfl rfl ?_
  refine ev_iald rfl rfl rfl (ix_in h0 hi hL (by decide)) rfl ?_
  refine ev_V5J (JW.refl (W := [(37, 3), (37, 4), (37, 7), (37, 8), (37, 11), (37, 12), (37, 13), (37, 15), (38, 999), (39, 999), (40, 999), (41, 999), (42, 999), (43, 999), (44, 999), (95, 999)]) hI.1) rfl rfl rfl lk_L_113 vt_X9_set rfl rfl rfl rfl rfl (w_X9_set_1 L h hI.1 _ _ _ _ _) (fun r1 h1 q1 j1 k1 => ?_)
  have hI1 : INV h1 := ⟨k1.1, sv_call hI.2.1 k1 rfl rfl, KS.call hI.2.2.1 k1 (fun _ => rfl), Rel.call hI.1 hI.2.2.2 k1 rfl rfl rfl rfl (fun _ => rfl) (fun _ => rfl) (fun _ => rfl) (fun _ => rfl) (fun _ => rfl) (fun _ => rfl) (fun _ => rfl) (fun _ => rfl) (fun _ => rfl) (fun _ => rfl) (fun _ => rfl)⟩
  refine ev_pop rfl rfl rfl ?_
  refine ev_aload_n rfl rfl rfl ?_
  refine ev_aload_n rfl rfl rfl ?_
  refine ev_iload_n rfl rfl rfl ?_
  refine ev_iconst (v := 1) rfl rfl (by decide) ?_
  refine ev_iadd rfl rfl ?_
  refine ev_iald rfl rfl rfl (ix_in h0 hi hL (by decide)) rfl ?_
  refine ev_aload_n rfl rfl rfl ?_
  refine ev_iload_n rfl rfl rfl ?_
  refine ev_iconst (v := 2) rfl rfl (by decide) ?_
  refine ev_iadd rfl rfl ?_
  refine ev_iald rfl rfl rfl (ix_in h0 hi hL (by decide)) rfl ?_
  refine ev_aload_n rfl rfl rfl ?_
  refine ev_iload_n rfl rfl rfl ?_
  refine ev_iconst (v := 3) rfl rfl (by decide) ?_
  refine ev_iadd rfl rfl ?_
  refine ev_iald rfl rfl rfl (ix_in h0 hi hL (by decide)) rfl ?_
  refine ev_aload_n rfl rfl rfl ?_
  refine ev_iload_n rfl rfl rfl ?_
  refine ev_iconst (v := 4) rfl rfl (by decide) ?_
  refine ev_iadd rfl rfl ?_
  refine ev_iald rfl rfl rfl (ix_in h0 hi hL (by decide)) rfl ?_
  refine ev_aload_n rfl rfl rfl ?_
  refine ev_iload_n rfl rfl rfl ?_
  refine ev_iconst (v := 5) rfl rfl (by decide) ?_
  refine ev_iadd rfl rfl ?_
  refine ev_iald rfl rfl rfl (ix_in h0 hi hL (by decide)) rfl ?_
  refine ev_V5J (JW.refl (W := [(63, 35), (63, 36), (63, 37), (78, 999), (79, 999), (80, 999), (81, 999), (82, 999), (83, 999), (84, 999)]) hI1.1) rfl rfl rfl lk_L_117 vt_X10_set rfl rfl rfl rfl rfl (w_X10_set_63 L true h1 hI1.1 _ _ _ _ _ hI1.2.1) (fun r2 h2 q2 j2 k2 => ?_)
  have hI2 : INV h2 := ⟨k2.1, sv_call hI1.2.1 k2 rfl rfl, KS.call hI1.2.2.1 k2 (fun _ => rfl), Rel.call hI1.1 hI1.2.2.2 k2 rfl rfl rfl rfl (fun _ => rfl) (fun _ => rfl) (fun _ => rfl) (fun _ => rfl) (fun _ => rfl) (fun _ => rfl) (fun _ => rfl) (fun _ => rfl) (fun _ => rfl) (fun _ => rfl) (fun _ => rfl)⟩
  refine ev_pop rfl rfl rfl ?_
  refine ev_goto rfl rfl ?_
  exact kk h2 hI2

set_option maxRecDepth 100000 in
set_option maxHeartbeats 4000000 in
theorem w_c_set2t (L : Nat) (h1 : Hp) (i r1 : Int32) (kc ks : Nat) (hI1 : INV h1) (h0 : 0 ≤ i.toInt) (hi : i.toInt + 8 ≤ (L : Int)) (hL : L ≤ 4096) (kk : ∀ h2, INV h2 → SM h2 h1 → EvQ mi_L_law 1426 [some (.ref 0), some (.ref 1), some (.ref 63), some (.int i)] [] (G0 L true) h2 kc ks QL) : EvQ mi_L_law 922 [some (.ref 0), some (.ref 1), some (.ref 63), some (.int i)] [.int r1] (G0 L true) h1 kc ks QL := by
  refine ev_pop rfl rfl rfl ?_
  refine ev_aload_n rfl rfl rfl ?_
  refine ev_aload_n rfl rfl rfl ?_
  refine ev_iload_n rfl rfl rfl ?_
  refine ev_iconst (v := 1) rfl rfl (by decide) ?_
  refine ev_iadd rfl rfl ?_
  refine ev_iald rfl rfl rfl (ix_in h0 hi hL (by decide)) rfl ?_
  refine ev_aload_n rfl rfl rfl ?_
  refine ev_iload_n rfl rfl rfl ?_
  refine ev_iconst (v := 2) rfl rfl (by decide) ?_
  refine ev_iadd rfl rfl ?_
  refine ev_iald rfl rfl rfl (ix_in h0 hi hL (by decide)) rfl ?_
  refine ev_aload_n rfl rfl rfl ?_
  refine ev_iload_n rfl rfl rfl ?_
  refine ev_iconst (v := 3) rfl rfl (by decide) ?_
  refine ev_iadd rfl rfl ?_
  refine ev_iald rfl rfl rfl (ix_in h0 hi hL (by decide)) rfl ?_
  refine ev_aload_n rfl rfl rfl ?_
  refine ev_iload_n rfl rfl rfl ?_
  refine ev_iconst (v := 4) rfl rfl (by decide) ?_
  refine ev_iadd rfl rfl ?_
  refine ev_iald rfl rfl rfl (ix_in h0 hi hL (by decide)) rfl ?_
  refine ev_aload_n rfl rfl rfl ?_
  refine ev_iload_n rfl rfl rfl ?_
  refine ev_iconst (v := 5) rfl rfl (by decide) ?_
  refine ev_iadd rfl rfl ?_
  refine ev_iald rfl rfl rfl (ix_in h0 hi hL (by decide)) rfl ?_
  refine ev_V5J (JW.refl (W := [(63, 35), (63, 36), (63, 37), (78, 999), (79, 999), (80, 999), (81, 999), (82, 999), (83, 999), (84, 999)]) hI1.1) rfl rfl rfl lk_L_117 vt_X10_set rfl rfl rfl rfl rfl (w_X10_set_63 L true h1 hI1.1 _ _ _ _ _ hI1.2.1) (fun r2 h2 q2 j2 k2 => ?_)
  have hI2 : INV h2 := ⟨k2.1, sv_call hI1.2.1 k2 rfl rfl, KS.call hI1.2.2.1 k2 (fun _ => rfl), Rel.call hI1.1 hI1.2.2.2 k2 rfl rfl rfl rfl (fun _ => rfl) (fun _ => rfl) (fun _ => rfl) (fun _ => rfl) (fun _ => rfl) (fun _ => rfl) (fun _ => rfl) (fun _ => rfl) (fun _ => rfl) (fun _ => rfl) (fun _ => rfl)⟩
  refine ev_pop rfl rfl rfl ?_
  refine ev_goto rfl rfl ?_
  exact kk h2 hI2 (SM.call (SM.refl h1) k2 (fun _ => rfl) rfl)

set_option maxRecDepth 100000 in
set_option maxHeartbeats 4000000 in
theorem w_c_set2f (L : Nat) (h1 : Hp) (i r1 : Int32) (kc ks : Nat) (hI1 : INV h1) (h0 : 0 ≤ i.toInt) (hi : i.toInt + 8 ≤ (L : Int)) (hL : L ≤ 4096) (kk : ∀ h2, INV h2 → SM h2 h1 → EvQ mi_L_law 1426 [some (.ref 0), some (.ref 1), some (.ref 63), some (.int i)] [] (G0 L false) h2 kc ks QL) : EvQ mi_L_law 922 [some (.ref 0), some (.ref 1), some (.ref 63), some (.int i)] [.int r1] (G0 L false) h1 kc ks QL := by
  refine ev_pop rfl rfl rfl ?_
  refine ev_aload_n rfl rfl rfl ?_
  refine ev_aload_n rfl rfl rfl ?_
  refine ev_iload_n rfl rfl rfl ?_
  refine ev_iconst (v := 1) rfl rfl (by decide) ?_
  refine ev_iadd rfl rfl ?_
  refine ev_iald rfl rfl rfl (ix_in h0 hi hL (by decide)) rfl ?_
  refine ev_aload_n rfl rfl rfl ?_
  refine ev_iload_n rfl rfl rfl ?_
  refine ev_iconst (v := 2) rfl rfl (by decide) ?_
  refine ev_iadd rfl rfl ?_
  refine ev_iald rfl rfl rfl (ix_in h0 hi hL (by decide)) rfl ?_
  refine ev_aload_n rfl rfl rfl ?_
  refine ev_iload_n rfl rfl rfl ?_
  refine ev_iconst (v := 3) rfl rfl (by decide) ?_
  refine ev_iadd rfl rfl ?_
  refine ev_iald rfl rfl rfl (ix_in h0 hi hL (by decide)) rfl ?_
  refine ev_aload_n rfl rfl rfl ?_
  refine ev_iload_n rfl rfl rfl ?_
  refine ev_iconst (v := 4) rfl rfl (by decide) ?_
  refine ev_iadd rfl rfl ?_
  refine ev_iald rfl rfl rfl (ix_in h0 hi hL (by decide)) rfl ?_
  refine ev_aload_n rfl rfl rfl ?_
  refine ev_iload_n rfl rfl rfl ?_
  refine ev_iconst (v := 5) rfl rfl (by decide) ?_
  refine ev_iadd rfl rfl ?_
  refine ev_iald rfl rfl rfl (ix_in h0 hi hL (by decide)) rfl ?_
  refine ev_V5J (JW.refl (W := [(63, 35), (63, 36), (63, 37), (78, 999), (79, 999), (80, 999), (81, 999), (82, 999), (83, 999), (84, 999)]) hI1.1) rfl rfl rfl lk_L_117 vt_X10_set rfl rfl rfl rfl rfl (w_X10_set_63 L false h1 hI1.1 _ _ _ _ _ hI1.2.1) (fun r2 h2 q2 j2 k2 => ?_)
  have hI2 : INV h2 := ⟨k2.1, sv_call hI1.2.1 k2 rfl rfl, KS.call hI1.2.2.1 k2 (fun _ => rfl), Rel.call hI1.1 hI1.2.2.2 k2 rfl rfl rfl rfl (fun _ => rfl) (fun _ => rfl) (fun _ => rfl) (fun _ => rfl) (fun _ => rfl) (fun _ => rfl) (fun _ => rfl) (fun _ => rfl) (fun _ => rfl) (fun _ => rfl) (fun _ => rfl)⟩
  refine ev_pop rfl rfl rfl ?_
  refine ev_goto rfl rfl ?_
  exact kk h2 hI2 (SM.call (SM.refl h1) k2 (fun _ => rfl) rfl)

set_option maxRecDepth 100000 in
set_option maxHeartbeats 4000000 in
theorem w_c_setF (L : Nat) (h : Hp) (i : Int32) (hI : INV h) (hz : FT h) (h0 : 0 ≤ i.toInt) (hi : i.toInt + 8 ≤ (L : Int)) (hL : L ≤ 4096) (kF : ∀ h1, INV h1 → SM h1 h → EvQ mi_L_law 1426 [some (.ref 0), some (.ref 1), some (.ref 63), some (.int i)] [] (G0 L false) h1 1 45225 QL) (kT : ∀ h1, INV h1 → EvQ mi_L_law 1426 [some (.ref 0), some (.ref 1), some (.ref 63), some (.int i)] [] (G0 L true) h1 0 0 QL) : EvQ mi_L_law 893 [some (.ref 0), some (.ref 1), some (.ref 63), some (.int i)] [] (G0 L false) h 1 45225 QL := by
  refine ev_aload_n rfl rfl rfl ?_
  refine ev_aload_n rfl rfl rfl ?_
  refine ev_iload_n rfl rfl rfl ?_
  refine ev_iconst (v := 1) rfl rfl (by decide) ?_
  refine ev_iadd rfl rfl ?_
  refine ev_iald rfl rfl rfl (ix_in h0 hi hL (by decide)) rfl ?_
  refine ev_aload_n rfl rfl rfl ?_
  refine ev_iload_n rfl rfl rfl ?_
  refine ev_iconst (v := 2) rfl rfl (by decide) ?_
  refine ev_iadd rfl rfl ?_
  refine ev_iald rfl rfl rfl (ix_in h0 hi hL (by decide)) rfl ?_
  refine ev_aload_n rfl rfl rfl ?_
  refine ev_iload_n rfl rfl rfl ?_
  refine ev_iconst (v := 3) rfl rfl (by decide) ?_
  refine ev_iadd rfl rfl ?_
  refine ev_iald rfl rfl rfl (ix_in h0 hi hL (by decide)) rfl ?_
  refine ev_aload_n rfl rfl rfl ?_
  refine ev_iload_n rfl rfl rfl ?_
  refine ev_iconst (v := 4) rfl rfl (by decide) ?_
  refine ev_iadd rfl rfl ?_
  refine ev_iald rfl rfl rfl (ix_in h0 hi hL (by decide)) rfl ?_
  refine ev_aload_n rfl rfl rfl ?_
  refine ev_iload_n rfl rfl rfl ?_
  refine ev_iconst (v := 5) rfl rfl (by decide) ?_
  refine ev_iadd rfl rfl ?_
  refine ev_iald rfl rfl rfl (ix_in h0 hi hL (by decide)) rfl ?_
  rcases w_X9_set_d_1 L h hI.1 (h 0 (i + 1).toNatClampNeg) (h 0 (i + 2).toNatClampNeg) (h 0 (i + 3).toNatClampNeg) (h 0 (i + 4).toNatClampNeg) (h 0 (i + 5).toNatClampNeg) hz.1 hz.2 with hM | hM
  · refine EvQ.cs (0 + 1) (0 + 45225) rfl rfl ?_
    refine ev_invV0 (As := [.int (h 0 (i + 1).toNatClampNeg), .int (h 0 (i + 2).toNatClampNeg), .int (h 0 (i + 3).toNatClampNeg), .int (h 0 (i + 4).toNatClampNeg), .int (h 0 (i + 5).toNatClampNeg)]) rfl rfl lk_L_113 vt_X9_set rfl rfl rfl rfl rfl (by decide) hM (fun v_ G_ h1 hq_ _ => ?_)
    obtain ⟨⟨r1, rfl⟩, rfl, rfl⟩ := hq_
    exact w_c_set2f L h1 i r1 1 45225 hI h0 hi hL kF
  · refine EvQ.cs (1 + 0) (45225 + 0) rfl rfl ?_
    refine ev_invV0 (As := [.int (h 0 (i + 1).toNatClampNeg), .int (h 0 (i + 2).toNatClampNeg), .int (h 0 (i + 3).toNatClampNeg), .int (h 0 (i + 4).toNatClampNeg), .int (h 0 (i + 5).toNatClampNeg)]) rfl rfl lk_L_113 vt_X9_set rfl rfl rfl rfl rfl (by decide) hM (fun v_ G_ h1 hq_ _ => ?_)
    obtain ⟨⟨r1, rfl⟩, rfl, k1⟩ := hq_
    have hI1 : INV h1 := ⟨k1.1, sv_call hI.2.1 k1 rfl rfl, KS.call hI.2.2.1 k1 (fun _ => rfl), Rel.call hI.1 hI.2.2.2 k1 rfl rfl rfl rfl (fun _ => rfl) (fun _ => rfl) (fun _ => rfl) (fun _ => rfl) (fun _ => rfl) (fun _ => rfl) (fun _ => rfl) (fun _ => rfl) (fun _ => rfl) (fun _ => rfl) (fun _ => rfl)⟩
    exact w_c_set2t L h1 i r1 0 0 hI1 h0 hi hL (fun h2 hI2 _ => kT h2 hI2)

set_option maxRecDepth 100000 in
set_option maxHeartbeats 4000000 in
theorem w_c_blame (L : Nat) (b : Bool) (h : Hp) (i : Int32) (kc ks : Nat) (hI : INV h) (h0 : 0 ≤ i.toInt) (hi : i.toInt + 8 ≤ (L : Int)) (hL : L ≤ 4096) (kk : ∀ h1, INV h1 → SM h1 h → EvQ mi_L_law 1426 [some (.ref 0), some (.ref 1), some (.ref 63), some (.int i)] [] (G0 L b) h1 kc ks QL) : EvQ mi_L_law 956 [some (.ref 0), some (.ref 1), some (.ref 63), some (.int i)] [] (G0 L b) h kc ks QL := by
  refine ev_aload_n rfl rfl rfl ?_
  refine ev_aload_n rfl rfl rfl ?_
  refine ev_iload_n rfl rfl rfl ?_
  refine ev_iconst (v := 1) rfl rfl (by decide) ?_
  refine ev_iadd rfl rfl ?_
  refine ev_iald rfl rfl rfl (ix_in h0 hi hL (by decide)) rfl ?_
  refine ev_aload_n rfl rfl rfl ?_
  refine ev_iload_n rfl rfl rfl ?_
  refine ev_iconst (v := 2) rfl rfl (by decide) ?_
  refine ev_iadd rfl rfl ?_
  refine ev_iald rfl rfl rfl (ix_in h0 hi hL (by decide)) rfl ?_
  refine ev_aload_n rfl rfl rfl ?_
  refine ev_iload_n rfl rfl rfl ?_
  refine ev_iconst (v := 3) rfl rfl (by decide) ?_
  refine ev_iadd rfl rfl ?_
  refine ev_iald rfl rfl rfl (ix_in h0 hi hL (by decide)) rfl ?_
  refine ev_aload_n rfl rfl rfl ?_
  refine ev_iload_n rfl rfl rfl ?_
  refine ev_iconst (v := 4) rfl rfl (by decide) ?_
  refine ev_iadd rfl rfl ?_
  refine ev_iald rfl rfl rfl (ix_in h0 hi hL (by decide)) rfl ?_
  refine ev_aload_n rfl rfl rfl ?_
  refine ev_iload_n rfl rfl rfl ?_
  refine ev_iconst (v := 5) rfl rfl (by decide) ?_
  refine ev_iadd rfl rfl ?_
  refine ev_iald rfl rfl rfl (ix_in h0 hi hL (by decide)) rfl ?_
  refine ev_aload_n rfl rfl rfl ?_
  refine ev_iload_n rfl rfl rfl ?_
  refine ev_bipush (v := 6) rfl rfl (by decide) ?_
  refine ev_iadd rfl rfl ?_
  refine ev_iald rfl rfl rfl (ix_in h0 hi hL (by decide)) rfl ?_
  refine ev_aload_n rfl rfl rfl ?_
  refine ev_iload_n rfl rfl rfl ?_
  refine ev_bipush (v := 7) rfl rfl (by decide) ?_
  refine ev_iadd rfl rfl ?_
  refine ev_iald rfl rfl rfl (ix_in h0 hi hL (by decide)) rfl ?_
  refine ev_V7J (JW.refl (W := [(45, 2), (45, 4), (45, 6), (45, 7), (46, 999), (47, 999), (48, 999), (49, 999)]) hI.1) rfl rfl rfl lk_L_118 vt_X9_blame rfl rfl rfl rfl rfl (w_X9_blame_1 L b h hI.1 _ _ _ _ _ _ _) (fun r1 h1 q1 j1 k1 => ?_)
  have hI1 : INV h1 := ⟨k1.1, (sv_call hI.2.1 k1 rfl rfl), (KS.call hI.2.2.1 k1 (fun _ => rfl)), Rel.call hI.1 hI.2.2.2 k1 rfl rfl rfl rfl (fun _ => rfl) (fun _ => rfl) (fun _ => rfl) (fun _ => rfl) (fun _ => rfl) (fun _ => rfl) (fun _ => rfl) (fun _ => rfl) (fun _ => rfl) (fun _ => rfl) (fun _ => rfl)⟩
  refine ev_pop rfl rfl rfl ?_
  refine ev_aload_n rfl rfl rfl ?_
  refine ev_aload_n rfl rfl rfl ?_
  refine ev_iload_n rfl rfl rfl ?_
  refine ev_iconst (v := 1) rfl rfl (by decide) ?_
  refine ev_iadd rfl rfl ?_
  refine ev_iald rfl rfl rfl (ix_in h0 hi hL (by decide)) rfl ?_
  refine ev_aload_n rfl rfl rfl ?_
  refine ev_iload_n rfl rfl rfl ?_
  refine ev_iconst (v := 2) rfl rfl (by decide) ?_
  refine ev_iadd rfl rfl ?_
  refine ev_iald rfl rfl rfl (ix_in h0 hi hL (by decide)) rfl ?_
  refine ev_aload_n rfl rfl rfl ?_
  refine ev_iload_n rfl rfl rfl ?_
  refine ev_iconst (v := 3) rfl rfl (by decide) ?_
  refine ev_iadd rfl rfl ?_
  refine ev_iald rfl rfl rfl (ix_in h0 hi hL (by decide)) rfl ?_
  refine ev_aload_n rfl rfl rfl ?_
  refine ev_iload_n rfl rfl rfl ?_
  refine ev_iconst (v := 4) rfl rfl (by decide) ?_
  refine ev_iadd rfl rfl ?_
  refine ev_iald rfl rfl rfl (ix_in h0 hi hL (by decide)) rfl ?_
  refine ev_aload_n rfl rfl rfl ?_
  refine ev_iload_n rfl rfl rfl ?_
  refine ev_iconst (v := 5) rfl rfl (by decide) ?_
  refine ev_iadd rfl rfl ?_
  refine ev_iald rfl rfl rfl (ix_in h0 hi hL (by decide)) rfl ?_
  refine ev_aload_n rfl rfl rfl ?_
  refine ev_iload_n rfl rfl rfl ?_
  refine ev_bipush (v := 6) rfl rfl (by decide) ?_
  refine ev_iadd rfl rfl ?_
  refine ev_iald rfl rfl rfl (ix_in h0 hi hL (by decide)) rfl ?_
  refine ev_aload_n rfl rfl rfl ?_
  refine ev_iload_n rfl rfl rfl ?_
  refine ev_bipush (v := 7) rfl rfl (by decide) ?_
  refine ev_iadd rfl rfl ?_
  refine ev_iald rfl rfl rfl (ix_in h0 hi hL (by decide)) rfl ?_
  refine ev_V7J (JW.refl (W := [(85, 999), (86, 999), (87, 999)]) hI1.1) rfl rfl rfl lk_L_122 vt_X10_blame rfl rfl rfl rfl rfl (w_X10_blame_63 L b h1 hI1.1 _ _ _ _ _ _ _) (fun r2 h2 q2 j2 k2 => ?_)
  have hI2 : INV h2 := ⟨k2.1, (sv_call hI1.2.1 k2 rfl rfl), (KS.call hI1.2.2.1 k2 (fun _ => rfl)), Rel.call hI1.1 hI1.2.2.2 k2 rfl rfl rfl rfl (fun _ => rfl) (fun _ => rfl) (fun _ => rfl) (fun _ => rfl) (fun _ => rfl) (fun _ => rfl) (fun _ => rfl) (fun _ => rfl) (fun _ => rfl) (fun _ => rfl) (fun _ => rfl)⟩
  refine ev_pop rfl rfl rfl ?_
  refine ev_goto rfl rfl ?_
  exact kk h2 hI2 (SM.call (SM.call (SM.refl h) k1 (fun _ => rfl) rfl) k2 (fun _ => rfl) rfl)

set_option maxRecDepth 100000 in
set_option maxHeartbeats 4000000 in
theorem w_c_boat (L : Nat) (b : Bool) (h : Hp) (i : Int32) (kc ks : Nat) (hI : INV h) (h0 : 0 ≤ i.toInt) (hi : i.toInt + 8 ≤ (L : Int)) (hL : L ≤ 4096) (kk : ∀ h1, INV h1 → SM h1 h → EvQ mi_L_law 1426 [some (.ref 0), some (.ref 1), some (.ref 63), some (.int i)] [] (G0 L b) h1 kc ks QL) : EvQ mi_L_law 1043 [some (.ref 0), some (.ref 1), some (.ref 63), some (.int i)] [] (G0 L b) h kc ks QL := by
  refine ev_aload_n rfl rfl rfl ?_
  refine ev_aload_n rfl rfl rfl ?_
  refine ev_iload_n rfl rfl rfl ?_
  refine ev_iconst (v := 1) rfl rfl (by decide) ?_
  refine ev_iadd rfl rfl ?_
  refine ev_iald rfl rfl rfl (ix_in h0 hi hL (by decide)) rfl ?_
  refine ev_aload_n rfl rfl rfl ?_
  refine ev_iload_n rfl rfl rfl ?_
  refine ev_iconst (v := 2) rfl rfl (by decide) ?_
  refine ev_iadd rfl rfl ?_
  refine ev_iald rfl rfl rfl (ix_in h0 hi hL (by decide)) rfl ?_
  refine ev_V2J (JW.refl (W := [(50, 2), (51, 999), (52, 999)]) hI.1) rfl rfl rfl lk_L_123 vt_X9_boat rfl rfl rfl rfl rfl (w_X9_boat_1 L b h hI.1 _ _) (fun r1 h1 q1 j1 k1 => ?_)
  have hI1 : INV h1 := ⟨k1.1, (sv_call hI.2.1 k1 rfl rfl), (KS.call hI.2.2.1 k1 (fun _ => rfl)), Rel.call hI.1 hI.2.2.2 k1 rfl rfl rfl rfl (fun _ => rfl) (fun _ => rfl) (fun _ => rfl) (fun _ => rfl) (fun _ => rfl) (fun _ => rfl) (fun _ => rfl) (fun _ => rfl) (fun _ => rfl) (fun _ => rfl) (fun _ => rfl)⟩
  refine ev_pop rfl rfl rfl ?_
  refine ev_aload_n rfl rfl rfl ?_
  refine ev_aload_n rfl rfl rfl ?_
  refine ev_iload_n rfl rfl rfl ?_
  refine ev_iconst (v := 1) rfl rfl (by decide) ?_
  refine ev_iadd rfl rfl ?_
  refine ev_iald rfl rfl rfl (ix_in h0 hi hL (by decide)) rfl ?_
  refine ev_aload_n rfl rfl rfl ?_
  refine ev_iload_n rfl rfl rfl ?_
  refine ev_iconst (v := 2) rfl rfl (by decide) ?_
  refine ev_iadd rfl rfl ?_
  refine ev_iald rfl rfl rfl (ix_in h0 hi hL (by decide)) rfl ?_
  refine ev_V2J (JW.refl (W := [(63, 45), (88, 999), (89, 999)]) hI1.1) rfl rfl rfl lk_L_126 vt_X10_boat rfl rfl rfl rfl rfl (w_X10_boat_63 L b h1 hI1.1 _ _) (fun r2 h2 q2 j2 k2 => ?_)
  have hI2 : INV h2 := ⟨k2.1, (sv_call hI1.2.1 k2 rfl rfl), (KS.call hI1.2.2.1 k2 (fun _ => rfl)), Rel.call hI1.1 hI1.2.2.2 k2 rfl rfl rfl rfl (fun _ => rfl) (fun _ => rfl) (fun _ => rfl) (fun _ => rfl) (fun _ => rfl) (fun _ => rfl) (fun _ => rfl) (fun _ => rfl) (fun _ => rfl) (fun _ => rfl) (fun _ => rfl)⟩
  refine ev_pop rfl rfl rfl ?_
  refine ev_goto rfl rfl ?_
  exact kk h2 hI2 (SM.call (SM.call (SM.refl h) k1 (fun _ => rfl) rfl) k2 (fun _ => rfl) rfl)

set_option maxRecDepth 100000 in
set_option maxHeartbeats 4000000 in
theorem w_c_bend (L : Nat) (b : Bool) (h : Hp) (i : Int32) (kc ks : Nat) (hI : INV h) (h0 : 0 ≤ i.toInt) (hi : i.toInt + 8 ≤ (L : Int)) (hL : L ≤ 4096) (kk : ∀ h1, INV h1 → SM h1 h → EvQ mi_L_law 1426 [some (.ref 0), some (.ref 1), some (.ref 63), some (.int i)] [] (G0 L b) h1 kc ks QL) : EvQ mi_L_law 1076 [some (.ref 0), some (.ref 1), some (.ref 63), some (.int i)] [] (G0 L b) h kc ks QL := by
  refine ev_aload_n rfl rfl rfl ?_
  refine ev_aload_n rfl rfl rfl ?_
  refine ev_iload_n rfl rfl rfl ?_
  refine ev_iconst (v := 1) rfl rfl (by decide) ?_
  refine ev_iadd rfl rfl ?_
  refine ev_iald rfl rfl rfl (ix_in h0 hi hL (by decide)) rfl ?_
  refine ev_aload_n rfl rfl rfl ?_
  refine ev_iload_n rfl rfl rfl ?_
  refine ev_iconst (v := 2) rfl rfl (by decide) ?_
  refine ev_iadd rfl rfl ?_
  refine ev_iald rfl rfl rfl (ix_in h0 hi hL (by decide)) rfl ?_
  refine ev_V2J (JW.refl (W := [(50, 5), (53, 999), (54, 999)]) hI.1) rfl rfl rfl lk_L_127 vt_X9_bend rfl rfl rfl rfl rfl (w_X9_bend_1 L b h hI.1 _ _) (fun r1 h1 q1 j1 k1 => ?_)
  have hI1 : INV h1 := ⟨k1.1, (sv_call hI.2.1 k1 rfl rfl), (KS.call hI.2.2.1 k1 (fun _ => rfl)), Rel.call hI.1 hI.2.2.2 k1 rfl rfl rfl rfl (fun _ => rfl) (fun _ => rfl) (fun _ => rfl) (fun _ => rfl) (fun _ => rfl) (fun _ => rfl) (fun _ => rfl) (fun _ => rfl) (fun _ => rfl) (fun _ => rfl) (fun _ => rfl)⟩
  refine ev_pop rfl rfl rfl ?_
  refine ev_aload_n rfl rfl rfl ?_
  refine ev_aload_n rfl rfl rfl ?_
  refine ev_iload_n rfl rfl rfl ?_
  refine ev_iconst (v := 1) rfl rfl (by decide) ?_
  refine ev_iadd rfl rfl ?_
  refine ev_iald rfl rfl rfl (ix_in h0 hi hL (by decide)) rfl ?_
  refine ev_aload_n rfl rfl rfl ?_
  refine ev_iload_n rfl rfl rfl ?_
  refine ev_iconst (v := 2) rfl rfl (by decide) ?_
  refine ev_iadd rfl rfl ?_
  refine ev_iald rfl rfl rfl (ix_in h0 hi hL (by decide)) rfl ?_
  refine ev_V2J (JW.refl (W := [(63, 48), (90, 999), (91, 999)]) hI1.1) rfl rfl rfl lk_L_130 vt_X10_bend rfl rfl rfl rfl rfl (w_X10_bend_63 L b h1 hI1.1 _ _) (fun r2 h2 q2 j2 k2 => ?_)
  have hI2 : INV h2 := ⟨k2.1, (sv_call hI1.2.1 k2 rfl rfl), (KS.call hI1.2.2.1 k2 (fun _ => rfl)), Rel.call hI1.1 hI1.2.2.2 k2 rfl rfl rfl rfl (fun _ => rfl) (fun _ => rfl) (fun _ => rfl) (fun _ => rfl) (fun _ => rfl) (fun _ => rfl) (fun _ => rfl) (fun _ => rfl) (fun _ => rfl) (fun _ => rfl) (fun _ => rfl)⟩
  refine ev_pop rfl rfl rfl ?_
  refine ev_goto rfl rfl ?_
  exact kk h2 hI2 (SM.call (SM.call (SM.refl h) k1 (fun _ => rfl) rfl) k2 (fun _ => rfl) rfl)

set_option maxRecDepth 100000 in
set_option maxHeartbeats 4000000 in
theorem w_c_speed (L : Nat) (b : Bool) (h : Hp) (i : Int32) (kc ks : Nat) (hI : INV h) (h0 : 0 ≤ i.toInt) (hi : i.toInt + 8 ≤ (L : Int)) (hL : L ≤ 4096) (kk : ∀ h1, INV h1 → SM h1 h → EvQ mi_L_law 1426 [some (.ref 0), some (.ref 1), some (.ref 63), some (.int i)] [] (G0 L b) h1 kc ks QL) : EvQ mi_L_law 1109 [some (.ref 0), some (.ref 1), some (.ref 63), some (.int i)] [] (G0 L b) h kc ks QL := by
  refine ev_aload_n rfl rfl rfl ?_
  refine ev_aload_n rfl rfl rfl ?_
  refine ev_iload_n rfl rfl rfl ?_
  refine ev_iconst (v := 1) rfl rfl (by decide) ?_
  refine ev_iadd rfl rfl ?_
  refine ev_iald rfl rfl rfl (ix_in h0 hi hL (by decide)) rfl ?_
  refine ev_V1J (JW.refl (W := [(50, 6)]) hI.1) rfl rfl rfl lk_L_131 vt_X9_speed rfl rfl rfl rfl rfl (w_X9_speed_1 L b h hI.1 _) (fun r1 h1 q1 j1 k1 => ?_)
  have hI1 : INV h1 := ⟨k1.1, (sv_call hI.2.1 k1 rfl rfl), (KS.call hI.2.2.1 k1 (fun _ => rfl)), Rel.call hI.1 hI.2.2.2 k1 rfl rfl rfl rfl (fun _ => rfl) (fun _ => rfl) (fun _ => rfl) (fun _ => rfl) (fun _ => rfl) (fun _ => rfl) (fun _ => rfl) (fun _ => rfl) (fun _ => rfl) (fun _ => rfl) (fun _ => rfl)⟩
  refine ev_pop rfl rfl rfl ?_
  refine ev_aload_n rfl rfl rfl ?_
  refine ev_aload_n rfl rfl rfl ?_
  refine ev_iload_n rfl rfl rfl ?_
  refine ev_iconst (v := 1) rfl rfl (by decide) ?_
  refine ev_iadd rfl rfl ?_
  refine ev_iald rfl rfl rfl (ix_in h0 hi hL (by decide)) rfl ?_
  refine ev_V1J (JW.refl (W := [(63, 51)]) hI1.1) rfl rfl rfl lk_L_134 vt_X10_speed rfl rfl rfl rfl rfl (w_X10_speed_63 L b h1 hI1.1 _) (fun r2 h2 q2 j2 k2 => ?_)
  have hI2 : INV h2 := ⟨k2.1, (sv_call hI1.2.1 k2 rfl rfl), (KS.call hI1.2.2.1 k2 (fun _ => rfl)), Rel.call hI1.1 hI1.2.2.2 k2 rfl rfl rfl rfl (fun _ => rfl) (fun _ => rfl) (fun _ => rfl) (fun _ => rfl) (fun _ => rfl) (fun _ => rfl) (fun _ => rfl) (fun _ => rfl) (fun _ => rfl) (fun _ => rfl) (fun _ => rfl)⟩
  refine ev_pop rfl rfl rfl ?_
  refine ev_goto rfl rfl ?_
  exact kk h2 hI2 (SM.call (SM.call (SM.refl h) k1 (fun _ => rfl) rfl) k2 (fun _ => rfl) rfl)

set_option maxRecDepth 100000 in
set_option maxHeartbeats 4000000 in
theorem w_c_far (L : Nat) (b : Bool) (h : Hp) (i : Int32) (kc ks : Nat) (hI : INV h) (h0 : 0 ≤ i.toInt) (hi : i.toInt + 8 ≤ (L : Int)) (hL : L ≤ 4096) (kk : ∀ h1, INV h1 → SM h1 h → EvQ mi_L_law 1426 [some (.ref 0), some (.ref 1), some (.ref 63), some (.int i)] [] (G0 L b) h1 kc ks QL) : EvQ mi_L_law 1132 [some (.ref 0), some (.ref 1), some (.ref 63), some (.int i)] [] (G0 L b) h kc ks QL := by
  refine ev_aload_n rfl rfl rfl ?_
  refine ev_aload_n rfl rfl rfl ?_
  refine ev_iload_n rfl rfl rfl ?_
  refine ev_iconst (v := 1) rfl rfl (by decide) ?_
  refine ev_iadd rfl rfl ?_
  refine ev_iald rfl rfl rfl (ix_in h0 hi hL (by decide)) rfl ?_
  refine ev_aload_n rfl rfl rfl ?_
  refine ev_iload_n rfl rfl rfl ?_
  refine ev_iconst (v := 2) rfl rfl (by decide) ?_
  refine ev_iadd rfl rfl ?_
  refine ev_iald rfl rfl rfl (ix_in h0 hi hL (by decide)) rfl ?_
  refine ev_V2P rfl rfl lk_L_135 vt_X9_far rfl rfl rfl rfl rfl (w_X9_far_1 L b h hI.1 _ _) (fun r1 q1 => ?_)
  refine ev_pop rfl rfl rfl ?_
  refine ev_aload_n rfl rfl rfl ?_
  refine ev_aload_n rfl rfl rfl ?_
  refine ev_iload_n rfl rfl rfl ?_
  refine ev_iconst (v := 1) rfl rfl (by decide) ?_
  refine ev_iadd rfl rfl ?_
  refine ev_iald rfl rfl rfl (ix_in h0 hi hL (by decide)) rfl ?_
  refine ev_aload_n rfl rfl rfl ?_
  refine ev_iload_n rfl rfl rfl ?_
  refine ev_iconst (v := 2) rfl rfl (by decide) ?_
  refine ev_iadd rfl rfl ?_
  refine ev_iald rfl rfl rfl (ix_in h0 hi hL (by decide)) rfl ?_
  refine ev_V2P rfl rfl lk_L_138 vt_X10_far rfl rfl rfl rfl rfl (w_X10_far_63 L b h hI.1 _ _) (fun r2 q2 => ?_)
  refine ev_pop rfl rfl rfl ?_
  refine ev_goto rfl rfl ?_
  exact kk h hI (SM.refl h)

set_option maxRecDepth 100000 in
set_option maxHeartbeats 4000000 in
theorem w_c_heard (L : Nat) (b : Bool) (h : Hp) (i : Int32) (kc ks : Nat) (hI : INV h) (h0 : 0 ≤ i.toInt) (hi : i.toInt + 8 ≤ (L : Int)) (hL : L ≤ 4096) (kk : ∀ h1, INV h1 → SM h1 h → EvQ mi_L_law 1426 [some (.ref 0), some (.ref 1), some (.ref 63), some (.int i)] [] (G0 L b) h1 kc ks QL) : EvQ mi_L_law 1165 [some (.ref 0), some (.ref 1), some (.ref 63), some (.int i)] [] (G0 L b) h kc ks QL := by
  refine ev_aload_n rfl rfl rfl ?_
  refine ev_aload_n rfl rfl rfl ?_
  refine ev_iload_n rfl rfl rfl ?_
  refine ev_iconst (v := 1) rfl rfl (by decide) ?_
  refine ev_iadd rfl rfl ?_
  refine ev_iald rfl rfl rfl (ix_in h0 hi hL (by decide)) rfl ?_
  refine ev_aload_n rfl rfl rfl ?_
  refine ev_iload_n rfl rfl rfl ?_
  refine ev_iconst (v := 2) rfl rfl (by decide) ?_
  refine ev_iadd rfl rfl ?_
  refine ev_iald rfl rfl rfl (ix_in h0 hi hL (by decide)) rfl ?_
  refine ev_aload_n rfl rfl rfl ?_
  refine ev_iload_n rfl rfl rfl ?_
  refine ev_iconst (v := 3) rfl rfl (by decide) ?_
  refine ev_iadd rfl rfl ?_
  refine ev_iald rfl rfl rfl (ix_in h0 hi hL (by decide)) rfl ?_
  refine ev_V3P rfl rfl lk_L_139 vt_X9_heard rfl rfl rfl rfl rfl (w_X9_heard_1 L b h hI.1 _ _ _) (fun r1 q1 => ?_)
  refine ev_pop rfl rfl rfl ?_
  refine ev_aload_n rfl rfl rfl ?_
  refine ev_aload_n rfl rfl rfl ?_
  refine ev_iload_n rfl rfl rfl ?_
  refine ev_iconst (v := 1) rfl rfl (by decide) ?_
  refine ev_iadd rfl rfl ?_
  refine ev_iald rfl rfl rfl (ix_in h0 hi hL (by decide)) rfl ?_
  refine ev_aload_n rfl rfl rfl ?_
  refine ev_iload_n rfl rfl rfl ?_
  refine ev_iconst (v := 2) rfl rfl (by decide) ?_
  refine ev_iadd rfl rfl ?_
  refine ev_iald rfl rfl rfl (ix_in h0 hi hL (by decide)) rfl ?_
  refine ev_aload_n rfl rfl rfl ?_
  refine ev_iload_n rfl rfl rfl ?_
  refine ev_iconst (v := 3) rfl rfl (by decide) ?_
  refine ev_iadd rfl rfl ?_
  refine ev_iald rfl rfl rfl (ix_in h0 hi hL (by decide)) rfl ?_
  refine ev_V3P rfl rfl lk_L_143 vt_X10_heard rfl rfl rfl rfl rfl (w_X10_heard_63 L b h hI.1 _ _ _) (fun r2 q2 => ?_)
  refine ev_pop rfl rfl rfl ?_
  refine ev_goto rfl rfl ?_
  exact kk h hI (SM.refl h)

set_option maxRecDepth 100000 in
set_option maxHeartbeats 4000000 in
theorem w_c_step (L : Nat) (b : Bool) (h : Hp) (i : Int32) (kc ks : Nat) (hI : INV h) (h0 : 0 ≤ i.toInt) (hi : i.toInt + 8 ≤ (L : Int)) (hL : L ≤ 4096) (kk : ∀ h1, INV h1 → SM h1 h → EvQ mi_L_law 1426 [some (.ref 0), some (.ref 1), some (.ref 63), some (.int i)] [] (G0 L b) h1 kc ks QL) : EvQ mi_L_law 1208 [some (.ref 0), some (.ref 1), some (.ref 63), some (.int i)] [] (G0 L b) h kc ks QL := by
  refine ev_aload_n rfl rfl rfl ?_
  refine ev_aload_n rfl rfl rfl ?_
  refine ev_iload_n rfl rfl rfl ?_
  refine ev_iconst (v := 1) rfl rfl (by decide) ?_
  refine ev_iadd rfl rfl ?_
  refine ev_iald rfl rfl rfl (ix_in h0 hi hL (by decide)) rfl ?_
  refine ev_aload_n rfl rfl rfl ?_
  refine ev_iload_n rfl rfl rfl ?_
  refine ev_iconst (v := 2) rfl rfl (by decide) ?_
  refine ev_iadd rfl rfl ?_
  refine ev_iald rfl rfl rfl (ix_in h0 hi hL (by decide)) rfl ?_
  refine ev_aload_n rfl rfl rfl ?_
  refine ev_iload_n rfl rfl rfl ?_
  refine ev_iconst (v := 3) rfl rfl (by decide) ?_
  refine ev_iadd rfl rfl ?_
  refine ev_iald rfl rfl rfl (ix_in h0 hi hL (by decide)) rfl ?_
  refine ev_V3J (JW.refl (W := [(50, 7), (50, 8), (50, 9), (50, 10)]) hI.1) rfl rfl rfl lk_L_144 vt_X9_step rfl rfl rfl rfl rfl (w_X9_step_1 L b h hI.1 _ _ _) (fun r1 h1 q1 j1 k1 => ?_)
  have hI1 : INV h1 := ⟨k1.1, (sv_call hI.2.1 k1 rfl rfl), (KS.call hI.2.2.1 k1 (fun _ => rfl)), Rel.call hI.1 hI.2.2.2 k1 rfl rfl rfl rfl (fun _ => rfl) (fun _ => rfl) (fun _ => rfl) (fun _ => rfl) (fun _ => rfl) (fun _ => rfl) (fun _ => rfl) (fun _ => rfl) (fun _ => rfl) (fun _ => rfl) (fun _ => rfl)⟩
  refine ev_pop rfl rfl rfl ?_
  refine ev_aload_n rfl rfl rfl ?_
  refine ev_aload_n rfl rfl rfl ?_
  refine ev_iload_n rfl rfl rfl ?_
  refine ev_iconst (v := 1) rfl rfl (by decide) ?_
  refine ev_iadd rfl rfl ?_
  refine ev_iald rfl rfl rfl (ix_in h0 hi hL (by decide)) rfl ?_
  refine ev_aload_n rfl rfl rfl ?_
  refine ev_iload_n rfl rfl rfl ?_
  refine ev_iconst (v := 2) rfl rfl (by decide) ?_
  refine ev_iadd rfl rfl ?_
  refine ev_iald rfl rfl rfl (ix_in h0 hi hL (by decide)) rfl ?_
  refine ev_aload_n rfl rfl rfl ?_
  refine ev_iload_n rfl rfl rfl ?_
  refine ev_iconst (v := 3) rfl rfl (by decide) ?_
  refine ev_iadd rfl rfl ?_
  refine ev_iald rfl rfl rfl (ix_in h0 hi hL (by decide)) rfl ?_
  refine ev_V3P rfl rfl lk_L_147 vt_X10_step rfl rfl rfl rfl rfl (w_X10_step_63 L b h1 hI1.1 _ _ _) (fun r2 q2 => ?_)
  refine ev_pop rfl rfl rfl ?_
  refine ev_goto rfl rfl ?_
  exact kk h1 hI1 (SM.call (SM.refl h) k1 (fun _ => rfl) rfl)

set_option maxRecDepth 100000 in
set_option maxHeartbeats 4000000 in
theorem w_c_undo (L : Nat) (b : Bool) (h : Hp) (i : Int32) (kc ks : Nat) (hI : INV h) (h0 : 0 ≤ i.toInt) (hi : i.toInt + 8 ≤ (L : Int)) (hL : L ≤ 4096) (kk : ∀ h1, INV h1 → SM h1 h → EvQ mi_L_law 1426 [some (.ref 0), some (.ref 1), some (.ref 63), some (.int i)] [] (G0 L b) h1 kc ks QL) : EvQ mi_L_law 1251 [some (.ref 0), some (.ref 1), some (.ref 63), some (.int i)] [] (G0 L b) h kc ks QL := by
  refine ev_aload_n rfl rfl rfl ?_
  refine ev_V0J (JW.refl (W := [(2, 0), (2, 1), (2, 2), (2, 3), (2, 4), (4, 6), (9, 999), (10, 999), (11, 1), (11, 2), (11, 3)]) hI.1) rfl rfl rfl lk_L_148 vt_X9_undo rfl rfl rfl rfl rfl (w_X9_undo_1 L b h hI.1) (fun r1 h1 q1 j1 k1 => ?_)
  have hI1 : INV h1 := ⟨k1.1, (sv_call hI.2.1 k1 rfl rfl), (KS.call hI.2.2.1 k1 (fun _ => rfl)), Rel.call hI.1 hI.2.2.2 k1 rfl rfl rfl rfl (fun _ => rfl) (fun _ => rfl) (fun _ => rfl) (fun _ => rfl) (fun _ => rfl) (fun _ => rfl) (fun _ => rfl) (fun _ => rfl) (fun _ => rfl) (fun _ => rfl) (fun _ => rfl)⟩
  refine ev_pop rfl rfl rfl ?_
  refine ev_aload_n rfl rfl rfl ?_
  refine ev_V0I (JW.refl (W := [(63, 0), (63, 1), (63, 2), (63, 3), (63, 4), (63, 13), (68, 999), (69, 999), (70, 999)]) hI1.1) rfl rfl rfl lk_L_151 vt_X10_undo rfl rfl rfl rfl rfl (w_X10_undo_63 L b h1 hI1.1 hI1.2.1 hI1.2.2.1) (fun r2 h2 q2 j2 k2 => ?_)
  obtain ⟨_, s0_, s1_⟩ := q2
  have hI2 : INV h2 := ⟨k2.1, s0_, s1_, Rel.call hI1.1 hI1.2.2.2 k2 rfl rfl rfl rfl (fun _ => rfl) (fun _ => rfl) (fun _ => rfl) (fun _ => rfl) (fun _ => rfl) (fun _ => rfl) (fun _ => rfl) (fun _ => rfl) (fun _ => rfl) (fun _ => rfl) (fun _ => rfl)⟩
  refine ev_pop rfl rfl rfl ?_
  refine ev_goto rfl rfl ?_
  exact kk h2 hI2 (SM.call (SM.call (SM.refl h) k1 (fun _ => rfl) rfl) k2 (fun _ => rfl) rfl)

set_option maxRecDepth 100000 in
set_option maxHeartbeats 4000000 in
theorem w_c_sheet (L : Nat) (b : Bool) (h : Hp) (i : Int32) (kc ks : Nat) (hI : INV h) (h0 : 0 ≤ i.toInt) (hi : i.toInt + 8 ≤ (L : Int)) (hL : L ≤ 4096) (kk : ∀ h1, INV h1 → SM h1 h → EvQ mi_L_law 1426 [some (.ref 0), some (.ref 1), some (.ref 63), some (.int i)] [] (G0 L b) h1 kc ks QL) : EvQ mi_L_law 1264 [some (.ref 0), some (.ref 1), some (.ref 63), some (.int i)] [] (G0 L b) h kc ks QL := by
  refine ev_aload_n rfl rfl rfl ?_
  refine ev_aload_n rfl rfl rfl ?_
  refine ev_iload_n rfl rfl rfl ?_
  refine ev_iconst (v := 1) rfl rfl (by decide) ?_
  refine ev_iadd rfl rfl ?_
  refine ev_iald rfl rfl rfl (ix_in h0 hi hL (by decide)) rfl ?_
  refine ev_aload_n rfl rfl rfl ?_
  refine ev_iload_n rfl rfl rfl ?_
  refine ev_iconst (v := 2) rfl rfl (by decide) ?_
  refine ev_iadd rfl rfl ?_
  refine ev_iald rfl rfl rfl (ix_in h0 hi hL (by decide)) rfl ?_
  refine ev_aload_n rfl rfl rfl ?_
  refine ev_iload_n rfl rfl rfl ?_
  refine ev_iconst (v := 3) rfl rfl (by decide) ?_
  refine ev_iadd rfl rfl ?_
  refine ev_iald rfl rfl rfl (ix_in h0 hi hL (by decide)) rfl ?_
  refine ev_V3J (JW.refl (W := [(57, 999), (58, 999), (59, 999), (60, 999), (61, 999), (62, 999)]) hI.1) rfl rfl rfl lk_L_152 vt_X9_sheet rfl rfl rfl rfl rfl (w_X9_sheet_1 L b h hI.1 _ _ _) (fun r1 h1 q1 j1 k1 => ?_)
  have hI1 : INV h1 := ⟨k1.1, (sv_call hI.2.1 k1 rfl rfl), (KS.call hI.2.2.1 k1 (fun _ => rfl)), Rel.call hI.1 hI.2.2.2 k1 rfl rfl rfl rfl (fun _ => rfl) (fun _ => rfl) (fun _ => rfl) (fun _ => rfl) (fun _ => rfl) (fun _ => rfl) (fun _ => rfl) (fun _ => rfl) (fun _ => rfl) (fun _ => rfl) (fun _ => rfl)⟩
  refine ev_pop rfl rfl rfl ?_
  refine ev_aload_n rfl rfl rfl ?_
  refine ev_aload_n rfl rfl rfl ?_
  refine ev_iload_n rfl rfl rfl ?_
  refine ev_iconst (v := 1) rfl rfl (by decide) ?_
  refine ev_iadd rfl rfl ?_
  refine ev_iald rfl rfl rfl (ix_in h0 hi hL (by decide)) rfl ?_
  refine ev_aload_n rfl rfl rfl ?_
  refine ev_iload_n rfl rfl rfl ?_
  refine ev_iconst (v := 2) rfl rfl (by decide) ?_
  refine ev_iadd rfl rfl ?_
  refine ev_iald rfl rfl rfl (ix_in h0 hi hL (by decide)) rfl ?_
  refine ev_aload_n rfl rfl rfl ?_
  refine ev_iload_n rfl rfl rfl ?_
  refine ev_iconst (v := 3) rfl rfl (by decide) ?_
  refine ev_iadd rfl rfl ?_
  refine ev_iald rfl rfl rfl (ix_in h0 hi hL (by decide)) rfl ?_
  refine ev_V3J (JW.refl (W := [(92, 999), (93, 999), (94, 999)]) hI1.1) rfl rfl rfl lk_L_155 vt_X10_sheet rfl rfl rfl rfl rfl (w_X10_sheet_63 L b h1 hI1.1 _ _ _) (fun r2 h2 q2 j2 k2 => ?_)
  have hI2 : INV h2 := ⟨k2.1, (sv_call hI1.2.1 k2 rfl rfl), (KS.call hI1.2.2.1 k2 (fun _ => rfl)), Rel.call hI1.1 hI1.2.2.2 k2 rfl rfl rfl rfl (fun _ => rfl) (fun _ => rfl) (fun _ => rfl) (fun _ => rfl) (fun _ => rfl) (fun _ => rfl) (fun _ => rfl) (fun _ => rfl) (fun _ => rfl) (fun _ => rfl) (fun _ => rfl)⟩
  refine ev_pop rfl rfl rfl ?_
  refine ev_goto rfl rfl ?_
  exact kk h2 hI2 (SM.call (SM.call (SM.refl h) k1 (fun _ => rfl) rfl) k2 (fun _ => rfl) rfl)

set_option maxRecDepth 100000 in
set_option maxHeartbeats 4000000 in
theorem w_c_lay (L : Nat) (b : Bool) (h : Hp) (i : Int32) (kc ks : Nat) (hI : INV h) (h0 : 0 ≤ i.toInt) (hi : i.toInt + 8 ≤ (L : Int)) (hL : L ≤ 4096) (kk : ∀ h1, INV h1 → SM h1 h → EvQ mi_L_law 1426 [some (.ref 0), some (.ref 1), some (.ref 63), some (.int i)] [] (G0 L b) h1 kc ks QL) : EvQ mi_L_law 1307 [some (.ref 0), some (.ref 1), some (.ref 63), some (.int i)] [] (G0 L b) h kc ks QL := by
  refine ev_aload_n rfl rfl rfl ?_
  refine ev_aload_n rfl rfl rfl ?_
  refine ev_iload_n rfl rfl rfl ?_
  refine ev_iconst (v := 1) rfl rfl (by decide) ?_
  refine ev_iadd rfl rfl ?_
  refine ev_iald rfl rfl rfl (ix_in h0 hi hL (by decide)) rfl ?_
  refine ev_aload_n rfl rfl rfl ?_
  refine ev_iload_n rfl rfl rfl ?_
  refine ev_iconst (v := 2) rfl rfl (by decide) ?_
  refine ev_iadd rfl rfl ?_
  refine ev_iald rfl rfl rfl (ix_in h0 hi hL (by decide)) rfl ?_
  refine ev_aload_n rfl rfl rfl ?_
  refine ev_iload_n rfl rfl rfl ?_
  refine ev_iconst (v := 3) rfl rfl (by decide) ?_
  refine ev_iadd rfl rfl ?_
  refine ev_iald rfl rfl rfl (ix_in h0 hi hL (by decide)) rfl ?_
  refine ev_V3J (JW.refl (W := [(57, 999), (58, 999), (59, 999), (60, 999)]) hI.1) rfl rfl rfl lk_L_156 vt_X9_lay rfl rfl rfl rfl rfl (w_X9_lay_1 L b h hI.1 _ _ _) (fun r1 h1 q1 j1 k1 => ?_)
  have hI1 : INV h1 := ⟨k1.1, (sv_call hI.2.1 k1 rfl rfl), (KS.call hI.2.2.1 k1 (fun _ => rfl)), Rel.call hI.1 hI.2.2.2 k1 rfl rfl rfl rfl (fun _ => rfl) (fun _ => rfl) (fun _ => rfl) (fun _ => rfl) (fun _ => rfl) (fun _ => rfl) (fun _ => rfl) (fun _ => rfl) (fun _ => rfl) (fun _ => rfl) (fun _ => rfl)⟩
  refine ev_pop rfl rfl rfl ?_
  refine ev_aload_n rfl rfl rfl ?_
  refine ev_aload_n rfl rfl rfl ?_
  refine ev_iload_n rfl rfl rfl ?_
  refine ev_iconst (v := 1) rfl rfl (by decide) ?_
  refine ev_iadd rfl rfl ?_
  refine ev_iald rfl rfl rfl (ix_in h0 hi hL (by decide)) rfl ?_
  refine ev_aload_n rfl rfl rfl ?_
  refine ev_iload_n rfl rfl rfl ?_
  refine ev_iconst (v := 2) rfl rfl (by decide) ?_
  refine ev_iadd rfl rfl ?_
  refine ev_iald rfl rfl rfl (ix_in h0 hi hL (by decide)) rfl ?_
  refine ev_aload_n rfl rfl rfl ?_
  refine ev_iload_n rfl rfl rfl ?_
  refine ev_iconst (v := 3) rfl rfl (by decide) ?_
  refine ev_iadd rfl rfl ?_
  refine ev_iald rfl rfl rfl (ix_in h0 hi hL (by decide)) rfl ?_
  refine ev_V3J (JW.refl (W := [(94, 999)]) hI1.1) rfl rfl rfl lk_L_159 vt_X10_lay rfl rfl rfl rfl rfl (w_X10_lay_63 L b h1 hI1.1 _ _ _) (fun r2 h2 q2 j2 k2 => ?_)
  have hI2 : INV h2 := ⟨k2.1, (sv_call hI1.2.1 k2 rfl rfl), (KS.call hI1.2.2.1 k2 (fun _ => rfl)), Rel.call hI1.1 hI1.2.2.2 k2 rfl rfl rfl rfl (fun _ => rfl) (fun _ => rfl) (fun _ => rfl) (fun _ => rfl) (fun _ => rfl) (fun _ => rfl) (fun _ => rfl) (fun _ => rfl) (fun _ => rfl) (fun _ => rfl) (fun _ => rfl)⟩
  refine ev_pop rfl rfl rfl ?_
  refine ev_goto rfl rfl ?_
  exact kk h2 hI2 (SM.call (SM.call (SM.refl h) k1 (fun _ => rfl) rfl) k2 (fun _ => rfl) rfl)

set_option maxRecDepth 100000 in
set_option maxHeartbeats 4000000 in
theorem w_c_scan (L : Nat) (b : Bool) (h : Hp) (i : Int32) (kc ks : Nat) (hI : INV h) (h0 : 0 ≤ i.toInt) (hi : i.toInt + 8 ≤ (L : Int)) (hL : L ≤ 4096) (kk : ∀ h1, INV h1 → SM h1 h → EvQ mi_L_law 1426 [some (.ref 0), some (.ref 1), some (.ref 63), some (.int i)] [] (G0 L b) h1 kc ks QL) : EvQ mi_L_law 1350 [some (.ref 0), some (.ref 1), some (.ref 63), some (.int i)] [] (G0 L b) h kc ks QL := by
  refine ev_aload_n rfl rfl rfl ?_
  refine ev_aload_n rfl rfl rfl ?_
  refine ev_iload_n rfl rfl rfl ?_
  refine ev_iconst (v := 1) rfl rfl (by decide) ?_
  refine ev_iadd rfl rfl ?_
  refine ev_iald rfl rfl rfl (ix_in h0 hi hL (by decide)) rfl ?_
  refine ev_aload_n rfl rfl rfl ?_
  refine ev_iload_n rfl rfl rfl ?_
  refine ev_iconst (v := 2) rfl rfl (by decide) ?_
  refine ev_iadd rfl rfl ?_
  refine ev_iald rfl rfl rfl (ix_in h0 hi hL (by decide)) rfl ?_
  refine ev_aload_n rfl rfl rfl ?_
  refine ev_iload_n rfl rfl rfl ?_
  refine ev_iconst (v := 3) rfl rfl (by decide) ?_
  refine ev_iadd rfl rfl ?_
  refine ev_iald rfl rfl rfl (ix_in h0 hi hL (by decide)) rfl ?_
  refine ev_aload_n rfl rfl rfl ?_
  refine ev_iload_n rfl rfl rfl ?_
  refine ev_iconst (v := 4) rfl rfl (by decide) ?_
  refine ev_iadd rfl rfl ?_
  refine ev_iald rfl rfl rfl (ix_in h0 hi hL (by decide)) rfl ?_
  refine ev_V4J (JW.refl (W := [(4, 7), (5, 999), (6, 999), (7, 999), (8, 999)]) hI.1) rfl rfl rfl lk_L_160 vt_X9_scan rfl rfl rfl rfl rfl (w_X9_scan_1 L b h hI.1 _ _ _ _) (fun r1 h1 q1 j1 k1 => ?_)
  have hI1 : INV h1 := ⟨k1.1, (sv_call hI.2.1 k1 rfl rfl), (KS.call hI.2.2.1 k1 (fun _ => rfl)), Rel.call hI.1 hI.2.2.2 k1 rfl rfl rfl rfl (fun _ => rfl) (fun _ => rfl) (fun _ => rfl) (fun _ => rfl) (fun _ => rfl) (fun _ => rfl) (fun _ => rfl) (fun _ => rfl) (fun _ => rfl) (fun _ => rfl) (fun _ => rfl)⟩
  refine ev_pop rfl rfl rfl ?_
  refine ev_aload_n rfl rfl rfl ?_
  refine ev_aload_n rfl rfl rfl ?_
  refine ev_iload_n rfl rfl rfl ?_
  refine ev_iconst (v := 1) rfl rfl (by decide) ?_
  refine ev_iadd rfl rfl ?_
  refine ev_iald rfl rfl rfl (ix_in h0 hi hL (by decide)) rfl ?_
  refine ev_aload_n rfl rfl rfl ?_
  refine ev_iload_n rfl rfl rfl ?_
  refine ev_iconst (v := 2) rfl rfl (by decide) ?_
  refine ev_iadd rfl rfl ?_
  refine ev_iald rfl rfl rfl (ix_in h0 hi hL (by decide)) rfl ?_
  refine ev_aload_n rfl rfl rfl ?_
  refine ev_iload_n rfl rfl rfl ?_
  refine ev_iconst (v := 3) rfl rfl (by decide) ?_
  refine ev_iadd rfl rfl ?_
  refine ev_iald rfl rfl rfl (ix_in h0 hi hL (by decide)) rfl ?_
  refine ev_aload_n rfl rfl rfl ?_
  refine ev_iload_n rfl rfl rfl ?_
  refine ev_iconst (v := 4) rfl rfl (by decide) ?_
  refine ev_iadd rfl rfl ?_
  refine ev_iald rfl rfl rfl (ix_in h0 hi hL (by decide)) rfl ?_
  refine ev_V4J (JW.refl (W := [(63, 5), (64, 999), (65, 999), (66, 999), (67, 999), (68, 999), (69, 999), (70, 999)]) hI1.1) rfl rfl rfl lk_L_164 vt_X10_scan rfl rfl rfl rfl rfl (w_X10_scan_63 L b h1 hI1.1 _ _ _ _) (fun r2 h2 q2 j2 k2 => ?_)
  have hI2 : INV h2 := ⟨k2.1, (sv_call hI1.2.1 k2 rfl rfl), (KS.call hI1.2.2.1 k2 (fun _ => rfl)), Rel.call hI1.1 hI1.2.2.2 k2 rfl rfl rfl rfl (fun _ => rfl) (fun _ => rfl) (fun _ => rfl) (fun _ => rfl) (fun _ => rfl) (fun _ => rfl) (fun _ => rfl) (fun _ => rfl) (fun _ => rfl) (fun _ => rfl) (fun _ => rfl)⟩
  refine ev_pop rfl rfl rfl ?_
  refine ev_goto rfl rfl ?_
  exact kk h2 hI2 (SM.call (SM.call (SM.refl h) k1 (fun _ => rfl) rfl) k2 (fun _ => rfl) rfl)

set_option maxRecDepth 100000 in
set_option maxHeartbeats 4000000 in
theorem w_c_count (L : Nat) (b : Bool) (h : Hp) (i : Int32) (kc ks : Nat) (hI : INV h) (h0 : 0 ≤ i.toInt) (hi : i.toInt + 8 ≤ (L : Int)) (hL : L ≤ 4096) (kk : ∀ h1, INV h1 → SM h1 h → EvQ mi_L_law 1426 [some (.ref 0), some (.ref 1), some (.ref 63), some (.int i)] [] (G0 L b) h1 kc ks QL) : EvQ mi_L_law 1403 [some (.ref 0), some (.ref 1), some (.ref 63), some (.int i)] [] (G0 L b) h kc ks QL := by
  refine ev_aload_n rfl rfl rfl ?_
  refine ev_aload_n rfl rfl rfl ?_
  refine ev_iload_n rfl rfl rfl ?_
  refine ev_iconst (v := 1) rfl rfl (by decide) ?_
  refine ev_iadd rfl rfl ?_
  refine ev_iald rfl rfl rfl (ix_in h0 hi hL (by decide)) rfl ?_
  refine ev_V1P rfl rfl lk_L_165 vt_X9_count rfl rfl rfl rfl rfl (w_X9_count_1 L b h hI.1 _) (fun r1 q1 => ?_)
  refine ev_pop rfl rfl rfl ?_
  refine ev_aload_n rfl rfl rfl ?_
  refine ev_aload_n rfl rfl rfl ?_
  refine ev_iload_n rfl rfl rfl ?_
  refine ev_iconst (v := 1) rfl rfl (by decide) ?_
  refine ev_iadd rfl rfl ?_
  refine ev_iald rfl rfl rfl (ix_in h0 hi hL (by decide)) rfl ?_
  refine ev_V1P rfl rfl lk_L_168 vt_X10_count rfl rfl rfl rfl rfl (w_X10_count_63 L b h hI.1 _) (fun r2 q2 => ?_)
  refine ev_pop rfl rfl rfl ?_
  refine ev_goto rfl rfl ?_
  exact kk h hI (SM.refl h)

theorem ix_le {i : Int32} {L : Nat} (h0 : 0 ≤ i.toInt) (hL : L ≤ 4096) (c : ¬ nI L - 8 < i) : i.toInt + 8 ≤ (L : Int) := by
  have e := nI_toInt (show L < 2 ^ 31 by omega)
  have e8 : (8 : Int32).toInt = 8 := by decide
  have z := w_nlt c
  have e2 := w_sub (x := nI L) (y := 8) (by omega) (by omega)
  omega
set_option maxRecDepth 100000 in
set_option maxHeartbeats 4000000 in
theorem w_st (L : Nat) (b : Bool) (h : Hp) (i : Int32) (kc ks : Nat) (h0 : 0 ≤ i.toInt) (hi : i.toInt + 8 ≤ (L : Int)) (hL : L ≤ 4096) (kk : ∀ i' : Int32, i'.toInt = i.toInt + 8 → EvQ mi_L_law 18 [some (.ref 0), some (.ref 1), some (.ref 63), some (.int i')] [] (G0 L b) h kc ks QL) : EvQ mi_L_law 1426 [some (.ref 0), some (.ref 1), some (.ref 63), some (.int i)] [] (G0 L b) h kc ks QL := by
  refine ev_iinc (y := 8) rfl rfl rfl (by decide) rfl rfl ?_
  dsimp only [List.set]
  refine ev_goto rfl rfl ?_
  refine kk (i + 8) ?_
  have e8 : (8 : Int32).toInt = 8 := by decide
  rw [w_add (by omega) (by omega), e8]

theorem ix_gt {i : Int32} {L : Nat} (h0 : 0 ≤ i.toInt) (hL : L ≤ 4096) (hg : (L : Int) < i.toInt) : nI L - 8 < i := by
  have e := nI_toInt (show L < 2 ^ 31 by omega)
  have e8 : (8 : Int32).toInt = 8 := by decide
  rw [Int32.lt_iff_toInt_lt, w_sub (x := nI L) (y := 8) (by omega) (by omega), e8, e]
  omega

set_option maxRecDepth 100000 in
set_option maxHeartbeats 4000000 in
theorem w_loopT (L : Nat) (hL : L ≤ 4096) : ∀ (n : Nat) (i : Int32) (h : Hp), 0 ≤ i.toInt → INV h → (L : Int) + 1 - i.toInt ≤ (n : Int) → EvQ mi_L_law 18 [some (.ref 0), some (.ref 1), some (.ref 63), some (.int i)] [] (G0 L true) h 0 0 QL := by
  intro n
  induction n with
  | zero =>
    intro i h h0 hI hm
    refine ev_iload_n rfl rfl rfl ?_
    refine ev_aload_n rfl rfl rfl ?_
    refine ev_alen rfl rfl rfl ?_
    refine ev_bipush (v := 8) rfl rfl (by decide) ?_
    refine ev_isub rfl rfl ?_
    refine ev_icmp_gt rfl rfl (fun c_24 => ?_) (fun z_ => absurd (ix_gt h0 hL (by omega)) z_)
    refine ev_iconst (v := 1) rfl rfl (by decide) ?_
    exact ev_iret rfl rfl rfl (rfl)
  | succ n ih =>
    intro i h h0 hI hm
    refine ev_iload_n rfl rfl rfl ?_
    refine ev_aload_n rfl rfl rfl ?_
    refine ev_alen rfl rfl rfl ?_
    refine ev_bipush (v := 8) rfl rfl (by decide) ?_
    refine ev_isub rfl rfl ?_
    refine ev_icmp_gt rfl rfl (fun c_24 => ?_) (fun c_24 => ?_)
    · refine ev_iconst (v := 1) rfl rfl (by decide) ?_
      exact ev_iret rfl rfl rfl (rfl)
    · have hi : i.toInt + 8 ≤ (L : Int) := ix_le h0 hL c_24
      refine ev_aload_n rfl rfl rfl ?_
      refine ev_iload_n rfl rfl rfl ?_
      refine ev_iald rfl rfl rfl (ix_0 h0 hi hL) rfl ?_
      refine ev_bipush (v := 63) rfl rfl (by decide) ?_
      refine ev_iand rfl rfl ?_
      rcases ev_sw (h 0 i.toNatClampNeg &&& 63) 0 35 with w_ | ⟨w_, w2_⟩
      · have n0_ : ¬ (h 0 i.toNatClampNeg &&& 63) = 0 := fun e_ => by rw [e_] at w_; exact absurd w_ (by decide)
        have n1_ : ¬ (h 0 i.toNatClampNeg &&& 63) = 1 := fun e_ => by rw [e_] at w_; exact absurd w_ (by decide)
        have n2_ : ¬ (h 0 i.toNatClampNeg &&& 63) = 2 := fun e_ => by rw [e_] at w_; exact absurd w_ (by decide)
        have n3_ : ¬ (h 0 i.toNatClampNeg &&& 63) = 3 := fun e_ => by rw [e_] at w_; exact absurd w_ (by decide)
        have n4_ : ¬ (h 0 i.toNatClampNeg &&& 63) = 4 := fun e_ => by rw [e_] at w_; exact absurd w_ (by decide)
        have n5_ : ¬ (h 0 i.toNatClampNeg &&& 63) = 5 := fun e_ => by rw [e_] at w_; exact absurd w_ (by decide)
        have n6_ : ¬ (h 0 i.toNatClampNeg &&& 63) = 6 := fun e_ => by rw [e_] at w_; exact absurd w_ (by decide)
        have n7_ : ¬ (h 0 i.toNatClampNeg &&& 63) = 7 := fun e_ => by rw [e_] at w_; exact absurd w_ (by decide)
        have n8_ : ¬ (h 0 i.toNatClampNeg &&& 63) = 8 := fun e_ => by rw [e_] at w_; exact absurd w_ (by decide)
        have n9_ : ¬ (h 0 i.toNatClampNeg &&& 63) = 9 := fun e_ => by rw [e_] at w_; exact absurd w_ (by decide)
        have n10_ : ¬ (h 0 i.toNatClampNeg &&& 63) = 10 := fun e_ => by rw [e_] at w_; exact absurd w_ (by decide)
        have n11_ : ¬ (h 0 i.toNatClampNeg &&& 63) = 11 := fun e_ => by rw [e_] at w_; exact absurd w_ (by decide)
        have n12_ : ¬ (h 0 i.toNatClampNeg &&& 63) = 12 := fun e_ => by rw [e_] at w_; exact absurd w_ (by decide)
        have n13_ : ¬ (h 0 i.toNatClampNeg &&& 63) = 13 := fun e_ => by rw [e_] at w_; exact absurd w_ (by decide)
        have n14_ : ¬ (h 0 i.toNatClampNeg &&& 63) = 14 := fun e_ => by rw [e_] at w_; exact absurd w_ (by decide)
        have n15_ : ¬ (h 0 i.toNatClampNeg &&& 63) = 15 := fun e_ => by rw [e_] at w_; exact absurd w_ (by decide)
        have n16_ : ¬ (h 0 i.toNatClampNeg &&& 63) = 16 := fun e_ => by rw [e_] at w_; exact absurd w_ (by decide)
        have n17_ : ¬ (h 0 i.toNatClampNeg &&& 63) = 17 := fun e_ => by rw [e_] at w_; exact absurd w_ (by decide)
        have n18_ : ¬ (h 0 i.toNatClampNeg &&& 63) = 18 := fun e_ => by rw [e_] at w_; exact absurd w_ (by decide)
        have n19_ : ¬ (h 0 i.toNatClampNeg &&& 63) = 19 := fun e_ => by rw [e_] at w_; exact absurd w_ (by decide)
        have n20_ : ¬ (h 0 i.toNatClampNeg &&& 63) = 20 := fun e_ => by rw [e_] at w_; exact absurd w_ (by decide)
        have n21_ : ¬ (h 0 i.toNatClampNeg &&& 63) = 21 := fun e_ => by rw [e_] at w_; exact absurd w_ (by decide)
        have n22_ : ¬ (h 0 i.toNatClampNeg &&& 63) = 22 := fun e_ => by rw [e_] at w_; exact absurd w_ (by decide)
        have n23_ : ¬ (h 0 i.toNatClampNeg &&& 63) = 23 := fun e_ => by rw [e_] at w_; exact absurd w_ (by decide)
        have n24_ : ¬ (h 0 i.toNatClampNeg &&& 63) = 24 := fun e_ => by rw [e_] at w_; exact absurd w_ (by decide)
        have n25_ : ¬ (h 0 i.toNatClampNeg &&& 63) = 25 := fun e_ => by rw [e_] at w_; exact absurd w_ (by decide)
        have n26_ : ¬ (h 0 i.toNatClampNeg &&& 63) = 26 := fun e_ => by rw [e_] at w_; exact absurd w_ (by decide)
        have n27_ : ¬ (h 0 i.toNatClampNeg &&& 63) = 27 := fun e_ => by rw [e_] at w_; exact absurd w_ (by decide)
        have n28_ : ¬ (h 0 i.toNatClampNeg &&& 63) = 28 := fun e_ => by rw [e_] at w_; exact absurd w_ (by decide)
        have n29_ : ¬ (h 0 i.toNatClampNeg &&& 63) = 29 := fun e_ => by rw [e_] at w_; exact absurd w_ (by decide)
        have n30_ : ¬ (h 0 i.toNatClampNeg &&& 63) = 30 := fun e_ => by rw [e_] at w_; exact absurd w_ (by decide)
        have n31_ : ¬ (h 0 i.toNatClampNeg &&& 63) = 31 := fun e_ => by rw [e_] at w_; exact absurd w_ (by decide)
        have n32_ : ¬ (h 0 i.toNatClampNeg &&& 63) = 32 := fun e_ => by rw [e_] at w_; exact absurd w_ (by decide)
        have n33_ : ¬ (h 0 i.toNatClampNeg &&& 63) = 33 := fun e_ => by rw [e_] at w_; exact absurd w_ (by decide)
        have n34_ : ¬ (h 0 i.toNatClampNeg &&& 63) = 34 := fun e_ => by rw [e_] at w_; exact absurd w_ (by decide)
        have n35_ : ¬ (h 0 i.toNatClampNeg &&& 63) = 35 := fun e_ => by rw [e_] at w_; exact absurd w_ (by decide)
        refine ev_tabOut 1426 rfl w_ (by decide) ?_
        exact w_st L true h i 0 0 h0 hi hL (fun i' e' => ih i' h (by omega) hI (by omega))
      · have w3_ : (h 0 i.toNatClampNeg &&& 63) = 0 ∨ (h 0 i.toNatClampNeg &&& 63) = 1 ∨ (h 0 i.toNatClampNeg &&& 63) = 2 ∨ (h 0 i.toNatClampNeg &&& 63) = 3 ∨ (h 0 i.toNatClampNeg &&& 63) = 4 ∨ (h 0 i.toNatClampNeg &&& 63) = 5 ∨ (h 0 i.toNatClampNeg &&& 63) = 6 ∨ (h 0 i.toNatClampNeg &&& 63) = 7 ∨ (h 0 i.toNatClampNeg &&& 63) = 8 ∨ (h 0 i.toNatClampNeg &&& 63) = 9 ∨ (h 0 i.toNatClampNeg &&& 63) = 10 ∨ (h 0 i.toNatClampNeg &&& 63) = 11 ∨ (h 0 i.toNatClampNeg &&& 63) = 12 ∨ (h 0 i.toNatClampNeg &&& 63) = 13 ∨ (h 0 i.toNatClampNeg &&& 63) = 14 ∨ (h 0 i.toNatClampNeg &&& 63) = 15 ∨ (h 0 i.toNatClampNeg &&& 63) = 16 ∨ (h 0 i.toNatClampNeg &&& 63) = 17 ∨ (h 0 i.toNatClampNeg &&& 63) = 18 ∨ (h 0 i.toNatClampNeg &&& 63) = 19 ∨ (h 0 i.toNatClampNeg &&& 63) = 20 ∨ (h 0 i.toNatClampNeg &&& 63) = 21 ∨ (h 0 i.toNatClampNeg &&& 63) = 22 ∨ (h 0 i.toNatClampNeg &&& 63) = 23 ∨ (h 0 i.toNatClampNeg &&& 63) = 24 ∨ (h 0 i.toNatClampNeg &&& 63) = 25 ∨ (h 0 i.toNatClampNeg &&& 63) = 26 ∨ (h 0 i.toNatClampNeg &&& 63) = 27 ∨ (h 0 i.toNatClampNeg &&& 63) = 28 ∨ (h 0 i.toNatClampNeg &&& 63) = 29 ∨ (h 0 i.toNatClampNeg &&& 63) = 30 ∨ (h 0 i.toNatClampNeg &&& 63) = 31 ∨ (h 0 i.toNatClampNeg &&& 63) = 32 ∨ (h 0 i.toNatClampNeg &&& 63) = 33 ∨ (h 0 i.toNatClampNeg &&& 63) = 34 ∨ (h 0 i.toNatClampNeg &&& 63) = 35 := by simp only [← Int32.toInt_inj]; have e_ := w_; have e2_ := w2_; simp only [Int32.reduceToInt] at *; omega
        rcases w3_ with e_ | e_ | e_ | e_ | e_ | e_ | e_ | e_ | e_ | e_ | e_ | e_ | e_ | e_ | e_ | e_ | e_ | e_ | e_ | e_ | e_ | e_ | e_ | e_ | e_ | e_ | e_ | e_ | e_ | e_ | e_ | e_ | e_ | e_ | e_ | e_
        · refine ev_tabIn 192 rfl (by rw [e_]; decide) (by rw [e_]; decide) (by rw [e_]; rfl) (by decide) ?_
          exact w_c_fire L true h i 0 0 hI h0 hi hL (fun h1 hI1 e1 => w_st L true h1 i 0 0 h0 hi hL (fun i' e' => ih i' h1 (by omega) hI1 (by omega)))
        · have n0_ : ¬ (h 0 i.toNatClampNeg &&& 63) = 0 := by rw [e_]; decide
          refine ev_tabIn 215 rfl (by rw [e_]; decide) (by rw [e_]; decide) (by rw [e_]; rfl) (by decide) ?_
          exact w_c_water L true h i 0 0 hI h0 hi hL (fun h1 hI1 e1 => w_st L true h1 i 0 0 h0 hi hL (fun i' e' => ih i' h1 (by omega) hI1 (by omega)))
        · have n0_ : ¬ (h 0 i.toNatClampNeg &&& 63) = 0 := by rw [e_]; decide
          have n1_ : ¬ (h 0 i.toNatClampNeg &&& 63) = 1 := by rw [e_]; decide
          refine ev_tabIn 238 rfl (by rw [e_]; decide) (by rw [e_]; decide) (by rw [e_]; rfl) (by decide) ?_
          exact w_c_valve L true h i 0 0 hI h0 hi hL (fun h1 hI1 e1 => w_st L true h1 i 0 0 h0 hi hL (fun i' e' => ih i' h1 (by omega) hI1 (by omega)))
        · have n0_ : ¬ (h 0 i.toNatClampNeg &&& 63) = 0 := by rw [e_]; decide
          have n1_ : ¬ (h 0 i.toNatClampNeg &&& 63) = 1 := by rw [e_]; decide
          have n2_ : ¬ (h 0 i.toNatClampNeg &&& 63) = 2 := by rw [e_]; decide
          refine ev_tabIn 261 rfl (by rw [e_]; decide) (by rw [e_]; decide) (by rw [e_]; rfl) (by decide) ?_
          exact w_c_pressure L true h i 0 0 hI h0 hi hL (fun h1 hI1 e1 => w_st L true h1 i 0 0 h0 hi hL (fun i' e' => ih i' h1 (by omega) hI1 (by omega)))
        · have n0_ : ¬ (h 0 i.toNatClampNeg &&& 63) = 0 := by rw [e_]; decide
          have n1_ : ¬ (h 0 i.toNatClampNeg &&& 63) = 1 := by rw [e_]; decide
          have n2_ : ¬ (h 0 i.toNatClampNeg &&& 63) = 2 := by rw [e_]; decide
          have n3_ : ¬ (h 0 i.toNatClampNeg &&& 63) = 3 := by rw [e_]; decide
          refine ev_tabIn 284 rfl (by rw [e_]; decide) (by rw [e_]; decide) (by rw [e_]; rfl) (by decide) ?_
          exact w_c_boiler L true h i 0 0 hI h0 hi hL (fun h1 hI1 e1 => w_st L true h1 i 0 0 h0 hi hL (fun i' e' => ih i' h1 (by omega) hI1 (by omega)))
        · have n0_ : ¬ (h 0 i.toNatClampNeg &&& 63) = 0 := by rw [e_]; decide
          have n1_ : ¬ (h 0 i.toNatClampNeg &&& 63) = 1 := by rw [e_]; decide
          have n2_ : ¬ (h 0 i.toNatClampNeg &&& 63) = 2 := by rw [e_]; decide
          have n3_ : ¬ (h 0 i.toNatClampNeg &&& 63) = 3 := by rw [e_]; decide
          have n4_ : ¬ (h 0 i.toNatClampNeg &&& 63) = 4 := by rw [e_]; decide
          refine ev_tabIn 307 rfl (by rw [e_]; decide) (by rw [e_]; decide) (by rw [e_]; rfl) (by decide) ?_
          exact w_c_beat L true h i 0 0 hI h0 hi hL (fun h1 hI1 e1 => w_st L true h1 i 0 0 h0 hi hL (fun i' e' => ih i' h1 (by omega) hI1 (by omega)))
        · have n0_ : ¬ (h 0 i.toNatClampNeg &&& 63) = 0 := by rw [e_]; decide
          have n1_ : ¬ (h 0 i.toNatClampNeg &&& 63) = 1 := by rw [e_]; decide
          have n2_ : ¬ (h 0 i.toNatClampNeg &&& 63) = 2 := by rw [e_]; decide
          have n3_ : ¬ (h 0 i.toNatClampNeg &&& 63) = 3 := by rw [e_]; decide
          have n4_ : ¬ (h 0 i.toNatClampNeg &&& 63) = 4 := by rw [e_]; decide
          have n5_ : ¬ (h 0 i.toNatClampNeg &&& 63) = 5 := by rw [e_]; decide
          refine ev_tabIn 330 rfl (by rw [e_]; decide) (by rw [e_]; decide) (by rw [e_]; rfl) (by decide) ?_
          exact w_c_whistle L true h i 0 0 hI h0 hi hL (fun h1 hI1 e1 => w_st L true h1 i 0 0 h0 hi hL (fun i' e' => ih i' h1 (by omega) hI1 (by omega)))
        · have n0_ : ¬ (h 0 i.toNatClampNeg &&& 63) = 0 := by rw [e_]; decide
          have n1_ : ¬ (h 0 i.toNatClampNeg &&& 63) = 1 := by rw [e_]; decide
          have n2_ : ¬ (h 0 i.toNatClampNeg &&& 63) = 2 := by rw [e_]; decide
          have n3_ : ¬ (h 0 i.toNatClampNeg &&& 63) = 3 := by rw [e_]; decide
          have n4_ : ¬ (h 0 i.toNatClampNeg &&& 63) = 4 := by rw [e_]; decide
          have n5_ : ¬ (h 0 i.toNatClampNeg &&& 63) = 5 := by rw [e_]; decide
          have n6_ : ¬ (h 0 i.toNatClampNeg &&& 63) = 6 := by rw [e_]; decide
          refine ev_tabIn 399 rfl (by rw [e_]; decide) (by rw [e_]; decide) (by rw [e_]; rfl) (by decide) ?_
          exact w_c_told L true h i 0 0 hI h0 hi hL (fun h1 hI1 e1 => w_st L true h1 i 0 0 h0 hi hL (fun i' e' => ih i' h1 (by omega) hI1 (by omega)))
        · have n0_ : ¬ (h 0 i.toNatClampNeg &&& 63) = 0 := by rw [e_]; decide
          have n1_ : ¬ (h 0 i.toNatClampNeg &&& 63) = 1 := by rw [e_]; decide
          have n2_ : ¬ (h 0 i.toNatClampNeg &&& 63) = 2 := by rw [e_]; decide
          have n3_ : ¬ (h 0 i.toNatClampNeg &&& 63) = 3 := by rw [e_]; decide
          have n4_ : ¬ (h 0 i.toNatClampNeg &&& 63) = 4 := by rw [e_]; decide
          have n5_ : ¬ (h 0 i.toNatClampNeg &&& 63) = 5 := by rw [e_]; decide
          have n6_ : ¬ (h 0 i.toNatClampNeg &&& 63) = 6 := by rw [e_]; decide
          have n7_ : ¬ (h 0 i.toNatClampNeg &&& 63) = 7 := by rw [e_]; decide
          refine ev_tabIn 432 rfl (by rw [e_]; decide) (by rw [e_]; decide) (by rw [e_]; rfl) (by decide) ?_
          exact w_c_stem L true h i 0 0 hI h0 hi hL (fun h1 hI1 e1 => w_st L true h1 i 0 0 h0 hi hL (fun i' e' => ih i' h1 (by omega) hI1 (by omega)))
        · have n0_ : ¬ (h 0 i.toNatClampNeg &&& 63) = 0 := by rw [e_]; decide
          have n1_ : ¬ (h 0 i.toNatClampNeg &&& 63) = 1 := by rw [e_]; decide
          have n2_ : ¬ (h 0 i.toNatClampNeg &&& 63) = 2 := by rw [e_]; decide
          have n3_ : ¬ (h 0 i.toNatClampNeg &&& 63) = 3 := by rw [e_]; decide
          have n4_ : ¬ (h 0 i.toNatClampNeg &&& 63) = 4 := by rw [e_]; decide
          have n5_ : ¬ (h 0 i.toNatClampNeg &&& 63) = 5 := by rw [e_]; decide
          have n6_ : ¬ (h 0 i.toNatClampNeg &&& 63) = 6 := by rw [e_]; decide
          have n7_ : ¬ (h 0 i.toNatClampNeg &&& 63) = 7 := by rw [e_]; decide
          have n8_ : ¬ (h 0 i.toNatClampNeg &&& 63) = 8 := by rw [e_]; decide
          refine ev_tabIn 465 rfl (by rw [e_]; decide) (by rw [e_]; decide) (by rw [e_]; rfl) (by decide) ?_
          exact w_c_crack L true h i 0 0 hI h0 hi hL (fun h1 hI1 e1 => w_st L true h1 i 0 0 h0 hi hL (fun i' e' => ih i' h1 (by omega) hI1 (by omega)))
        · have n0_ : ¬ (h 0 i.toNatClampNeg &&& 63) = 0 := by rw [e_]; decide
          have n1_ : ¬ (h 0 i.toNatClampNeg &&& 63) = 1 := by rw [e_]; decide
          have n2_ : ¬ (h 0 i.toNatClampNeg &&& 63) = 2 := by rw [e_]; decide
          have n3_ : ¬ (h 0 i.toNatClampNeg &&& 63) = 3 := by rw [e_]; decide
          have n4_ : ¬ (h 0 i.toNatClampNeg &&& 63) = 4 := by rw [e_]; decide
          have n5_ : ¬ (h 0 i.toNatClampNeg &&& 63) = 5 := by rw [e_]; decide
          have n6_ : ¬ (h 0 i.toNatClampNeg &&& 63) = 6 := by rw [e_]; decide
          have n7_ : ¬ (h 0 i.toNatClampNeg &&& 63) = 7 := by rw [e_]; decide
          have n8_ : ¬ (h 0 i.toNatClampNeg &&& 63) = 8 := by rw [e_]; decide
          have n9_ : ¬ (h 0 i.toNatClampNeg &&& 63) = 9 := by rw [e_]; decide
          refine ev_tabIn 498 rfl (by rw [e_]; decide) (by rw [e_]; decide) (by rw [e_]; rfl) (by decide) ?_
          exact w_c_leak L true h i 0 0 hI h0 hi hL (fun h1 hI1 e1 => w_st L true h1 i 0 0 h0 hi hL (fun i' e' => ih i' h1 (by omega) hI1 (by omega)))
        · have n0_ : ¬ (h 0 i.toNatClampNeg &&& 63) = 0 := by rw [e_]; decide
          have n1_ : ¬ (h 0 i.toNatClampNeg &&& 63) = 1 := by rw [e_]; decide
          have n2_ : ¬ (h 0 i.toNatClampNeg &&& 63) = 2 := by rw [e_]; decide
          have n3_ : ¬ (h 0 i.toNatClampNeg &&& 63) = 3 := by rw [e_]; decide
          have n4_ : ¬ (h 0 i.toNatClampNeg &&& 63) = 4 := by rw [e_]; decide
          have n5_ : ¬ (h 0 i.toNatClampNeg &&& 63) = 5 := by rw [e_]; decide
          have n6_ : ¬ (h 0 i.toNatClampNeg &&& 63) = 6 := by rw [e_]; decide
          have n7_ : ¬ (h 0 i.toNatClampNeg &&& 63) = 7 := by rw [e_]; decide
          have n8_ : ¬ (h 0 i.toNatClampNeg &&& 63) = 8 := by rw [e_]; decide
          have n9_ : ¬ (h 0 i.toNatClampNeg &&& 63) = 9 := by rw [e_]; decide
          have n10_ : ¬ (h 0 i.toNatClampNeg &&& 63) = 10 := by rw [e_]; decide
          refine ev_tabIn 547 rfl (by rw [e_]; decide) (by rw [e_]; decide) (by rw [e_]; rfl) (by decide) ?_
          exact w_c_pitch L true h i 0 0 hI h0 hi hL (fun h1 hI1 e1 => w_st L true h1 i 0 0 h0 hi hL (fun i' e' => ih i' h1 (by omega) hI1 (by omega)))
        · have n0_ : ¬ (h 0 i.toNatClampNeg &&& 63) = 0 := by rw [e_]; decide
          have n1_ : ¬ (h 0 i.toNatClampNeg &&& 63) = 1 := by rw [e_]; decide
          have n2_ : ¬ (h 0 i.toNatClampNeg &&& 63) = 2 := by rw [e_]; decide
          have n3_ : ¬ (h 0 i.toNatClampNeg &&& 63) = 3 := by rw [e_]; decide
          have n4_ : ¬ (h 0 i.toNatClampNeg &&& 63) = 4 := by rw [e_]; decide
          have n5_ : ¬ (h 0 i.toNatClampNeg &&& 63) = 5 := by rw [e_]; decide
          have n6_ : ¬ (h 0 i.toNatClampNeg &&& 63) = 6 := by rw [e_]; decide
          have n7_ : ¬ (h 0 i.toNatClampNeg &&& 63) = 7 := by rw [e_]; decide
          have n8_ : ¬ (h 0 i.toNatClampNeg &&& 63) = 8 := by rw [e_]; decide
          have n9_ : ¬ (h 0 i.toNatClampNeg &&& 63) = 9 := by rw [e_]; decide
          have n10_ : ¬ (h 0 i.toNatClampNeg &&& 63) = 10 := by rw [e_]; decide
          have n11_ : ¬ (h 0 i.toNatClampNeg &&& 63) = 11 := by rw [e_]; decide
          refine ev_tabIn 580 rfl (by rw [e_]; decide) (by rw [e_]; decide) (by rw [e_]; rfl) (by decide) ?_
          exact w_c_holds L true h i 0 0 hI h0 hi hL (fun h1 hI1 e1 => w_st L true h1 i 0 0 h0 hi hL (fun i' e' => ih i' h1 (by omega) hI1 (by omega)))
        · have n0_ : ¬ (h 0 i.toNatClampNeg &&& 63) = 0 := by rw [e_]; decide
          have n1_ : ¬ (h 0 i.toNatClampNeg &&& 63) = 1 := by rw [e_]; decide
          have n2_ : ¬ (h 0 i.toNatClampNeg &&& 63) = 2 := by rw [e_]; decide
          have n3_ : ¬ (h 0 i.toNatClampNeg &&& 63) = 3 := by rw [e_]; decide
          have n4_ : ¬ (h 0 i.toNatClampNeg &&& 63) = 4 := by rw [e_]; decide
          have n5_ : ¬ (h 0 i.toNatClampNeg &&& 63) = 5 := by rw [e_]; decide
          have n6_ : ¬ (h 0 i.toNatClampNeg &&& 63) = 6 := by rw [e_]; decide
          have n7_ : ¬ (h 0 i.toNatClampNeg &&& 63) = 7 := by rw [e_]; decide
          have n8_ : ¬ (h 0 i.toNatClampNeg &&& 63) = 8 := by rw [e_]; decide
          have n9_ : ¬ (h 0 i.toNatClampNeg &&& 63) = 9 := by rw [e_]; decide
          have n10_ : ¬ (h 0 i.toNatClampNeg &&& 63) = 10 := by rw [e_]; decide
          have n11_ : ¬ (h 0 i.toNatClampNeg &&& 63) = 11 := by rw [e_]; decide
          have n12_ : ¬ (h 0 i.toNatClampNeg &&& 63) = 12 := by rw [e_]; decide
          refine ev_tabIn 613 rfl (by rw [e_]; decide) (by rw [e_]; decide) (by rw [e_]; rfl) (by decide) ?_
          exact w_c_tuneAll L true h i 0 0 hI h0 hi hL (fun h1 hI1 e1 => w_st L true h1 i 0 0 h0 hi hL (fun i' e' => ih i' h1 (by omega) hI1 (by omega)))
        · have n0_ : ¬ (h 0 i.toNatClampNeg &&& 63) = 0 := by rw [e_]; decide
          have n1_ : ¬ (h 0 i.toNatClampNeg &&& 63) = 1 := by rw [e_]; decide
          have n2_ : ¬ (h 0 i.toNatClampNeg &&& 63) = 2 := by rw [e_]; decide
          have n3_ : ¬ (h 0 i.toNatClampNeg &&& 63) = 3 := by rw [e_]; decide
          have n4_ : ¬ (h 0 i.toNatClampNeg &&& 63) = 4 := by rw [e_]; decide
          have n5_ : ¬ (h 0 i.toNatClampNeg &&& 63) = 5 := by rw [e_]; decide
          have n6_ : ¬ (h 0 i.toNatClampNeg &&& 63) = 6 := by rw [e_]; decide
          have n7_ : ¬ (h 0 i.toNatClampNeg &&& 63) = 7 := by rw [e_]; decide
          have n8_ : ¬ (h 0 i.toNatClampNeg &&& 63) = 8 := by rw [e_]; decide
          have n9_ : ¬ (h 0 i.toNatClampNeg &&& 63) = 9 := by rw [e_]; decide
          have n10_ : ¬ (h 0 i.toNatClampNeg &&& 63) = 10 := by rw [e_]; decide
          have n11_ : ¬ (h 0 i.toNatClampNeg &&& 63) = 11 := by rw [e_]; decide
          have n12_ : ¬ (h 0 i.toNatClampNeg &&& 63) = 12 := by rw [e_]; decide
          have n13_ : ¬ (h 0 i.toNatClampNeg &&& 63) = 13 := by rw [e_]; decide
          refine ev_tabIn 636 rfl (by rw [e_]; decide) (by rw [e_]; decide) (by rw [e_]; rfl) (by decide) ?_
          exact w_c_agree L true h i 0 0 hI h0 hi hL (fun h1 hI1 e1 => w_st L true h1 i 0 0 h0 hi hL (fun i' e' => ih i' h1 (by omega) hI1 (by omega)))
        · have n0_ : ¬ (h 0 i.toNatClampNeg &&& 63) = 0 := by rw [e_]; decide
          have n1_ : ¬ (h 0 i.toNatClampNeg &&& 63) = 1 := by rw [e_]; decide
          have n2_ : ¬ (h 0 i.toNatClampNeg &&& 63) = 2 := by rw [e_]; decide
          have n3_ : ¬ (h 0 i.toNatClampNeg &&& 63) = 3 := by rw [e_]; decide
          have n4_ : ¬ (h 0 i.toNatClampNeg &&& 63) = 4 := by rw [e_]; decide
          have n5_ : ¬ (h 0 i.toNatClampNeg &&& 63) = 5 := by rw [e_]; decide
          have n6_ : ¬ (h 0 i.toNatClampNeg &&& 63) = 6 := by rw [e_]; decide
          have n7_ : ¬ (h 0 i.toNatClampNeg &&& 63) = 7 := by rw [e_]; decide
          have n8_ : ¬ (h 0 i.toNatClampNeg &&& 63) = 8 := by rw [e_]; decide
          have n9_ : ¬ (h 0 i.toNatClampNeg &&& 63) = 9 := by rw [e_]; decide
          have n10_ : ¬ (h 0 i.toNatClampNeg &&& 63) = 10 := by rw [e_]; decide
          have n11_ : ¬ (h 0 i.toNatClampNeg &&& 63) = 11 := by rw [e_]; decide
          have n12_ : ¬ (h 0 i.toNatClampNeg &&& 63) = 12 := by rw [e_]; decide
          have n13_ : ¬ (h 0 i.toNatClampNeg &&& 63) = 13 := by rw [e_]; decide
          have n14_ : ¬ (h 0 i.toNatClampNeg &&& 63) = 14 := by rw [e_]; decide
          refine ev_tabIn 659 rfl (by rw [e_]; decide) (by rw [e_]; decide) (by rw [e_]; rfl) (by decide) ?_
          exact w_c_feed L true h i 0 0 hI h0 hi hL (fun h1 hI1 e1 => w_st L true h1 i 0 0 h0 hi hL (fun i' e' => ih i' h1 (by omega) hI1 (by omega)))
        · have n0_ : ¬ (h 0 i.toNatClampNeg &&& 63) = 0 := by rw [e_]; decide
          have n1_ : ¬ (h 0 i.toNatClampNeg &&& 63) = 1 := by rw [e_]; decide
          have n2_ : ¬ (h 0 i.toNatClampNeg &&& 63) = 2 := by rw [e_]; decide
          have n3_ : ¬ (h 0 i.toNatClampNeg &&& 63) = 3 := by rw [e_]; decide
          have n4_ : ¬ (h 0 i.toNatClampNeg &&& 63) = 4 := by rw [e_]; decide
          have n5_ : ¬ (h 0 i.toNatClampNeg &&& 63) = 5 := by rw [e_]; decide
          have n6_ : ¬ (h 0 i.toNatClampNeg &&& 63) = 6 := by rw [e_]; decide
          have n7_ : ¬ (h 0 i.toNatClampNeg &&& 63) = 7 := by rw [e_]; decide
          have n8_ : ¬ (h 0 i.toNatClampNeg &&& 63) = 8 := by rw [e_]; decide
          have n9_ : ¬ (h 0 i.toNatClampNeg &&& 63) = 9 := by rw [e_]; decide
          have n10_ : ¬ (h 0 i.toNatClampNeg &&& 63) = 10 := by rw [e_]; decide
          have n11_ : ¬ (h 0 i.toNatClampNeg &&& 63) = 11 := by rw [e_]; decide
          have n12_ : ¬ (h 0 i.toNatClampNeg &&& 63) = 12 := by rw [e_]; decide
          have n13_ : ¬ (h 0 i.toNatClampNeg &&& 63) = 13 := by rw [e_]; decide
          have n14_ : ¬ (h 0 i.toNatClampNeg &&& 63) = 14 := by rw [e_]; decide
          have n15_ : ¬ (h 0 i.toNatClampNeg &&& 63) = 15 := by rw [e_]; decide
          refine ev_tabIn 712 rfl (by rw [e_]; decide) (by rw [e_]; decide) (by rw [e_]; rfl) (by decide) ?_
          exact w_c_end L true h i 0 0 hI h0 hi hL (fun h1 hI1 e1 => w_st L true h1 i 0 0 h0 hi hL (fun i' e' => ih i' h1 (by omega) hI1 (by omega)))
        · have n0_ : ¬ (h 0 i.toNatClampNeg &&& 63) = 0 := by rw [e_]; decide
          have n1_ : ¬ (h 0 i.toNatClampNeg &&& 63) = 1 := by rw [e_]; decide
          have n2_ : ¬ (h 0 i.toNatClampNeg &&& 63) = 2 := by rw [e_]; decide
          have n3_ : ¬ (h 0 i.toNatClampNeg &&& 63) = 3 := by rw [e_]; decide
          have n4_ : ¬ (h 0 i.toNatClampNeg &&& 63) = 4 := by rw [e_]; decide
          have n5_ : ¬ (h 0 i.toNatClampNeg &&& 63) = 5 := by rw [e_]; decide
          have n6_ : ¬ (h 0 i.toNatClampNeg &&& 63) = 6 := by rw [e_]; decide
          have n7_ : ¬ (h 0 i.toNatClampNeg &&& 63) = 7 := by rw [e_]; decide
          have n8_ : ¬ (h 0 i.toNatClampNeg &&& 63) = 8 := by rw [e_]; decide
          have n9_ : ¬ (h 0 i.toNatClampNeg &&& 63) = 9 := by rw [e_]; decide
          have n10_ : ¬ (h 0 i.toNatClampNeg &&& 63) = 10 := by rw [e_]; decide
          have n11_ : ¬ (h 0 i.toNatClampNeg &&& 63) = 11 := by rw [e_]; decide
          have n12_ : ¬ (h 0 i.toNatClampNeg &&& 63) = 12 := by rw [e_]; decide
          have n13_ : ¬ (h 0 i.toNatClampNeg &&& 63) = 13 := by rw [e_]; decide
          have n14_ : ¬ (h 0 i.toNatClampNeg &&& 63) = 14 := by rw [e_]; decide
          have n15_ : ¬ (h 0 i.toNatClampNeg &&& 63) = 15 := by rw [e_]; decide
          have n16_ : ¬ (h 0 i.toNatClampNeg &&& 63) = 16 := by rw [e_]; decide
          refine ev_tabIn 735 rfl (by rw [e_]; decide) (by rw [e_]; decide) (by rw [e_]; rfl) (by decide) ?_
          exact w_c_tune L true h i 0 0 hI h0 hi hL (fun h1 hI1 e1 => w_st L true h1 i 0 0 h0 hi hL (fun i' e' => ih i' h1 (by omega) hI1 (by omega)))
        · have n0_ : ¬ (h 0 i.toNatClampNeg &&& 63) = 0 := by rw [e_]; decide
          have n1_ : ¬ (h 0 i.toNatClampNeg &&& 63) = 1 := by rw [e_]; decide
          have n2_ : ¬ (h 0 i.toNatClampNeg &&& 63) = 2 := by rw [e_]; decide
          have n3_ : ¬ (h 0 i.toNatClampNeg &&& 63) = 3 := by rw [e_]; decide
          have n4_ : ¬ (h 0 i.toNatClampNeg &&& 63) = 4 := by rw [e_]; decide
          have n5_ : ¬ (h 0 i.toNatClampNeg &&& 63) = 5 := by rw [e_]; decide
          have n6_ : ¬ (h 0 i.toNatClampNeg &&& 63) = 6 := by rw [e_]; decide
          have n7_ : ¬ (h 0 i.toNatClampNeg &&& 63) = 7 := by rw [e_]; decide
          have n8_ : ¬ (h 0 i.toNatClampNeg &&& 63) = 8 := by rw [e_]; decide
          have n9_ : ¬ (h 0 i.toNatClampNeg &&& 63) = 9 := by rw [e_]; decide
          have n10_ : ¬ (h 0 i.toNatClampNeg &&& 63) = 10 := by rw [e_]; decide
          have n11_ : ¬ (h 0 i.toNatClampNeg &&& 63) = 11 := by rw [e_]; decide
          have n12_ : ¬ (h 0 i.toNatClampNeg &&& 63) = 12 := by rw [e_]; decide
          have n13_ : ¬ (h 0 i.toNatClampNeg &&& 63) = 13 := by rw [e_]; decide
          have n14_ : ¬ (h 0 i.toNatClampNeg &&& 63) = 14 := by rw [e_]; decide
          have n15_ : ¬ (h 0 i.toNatClampNeg &&& 63) = 15 := by rw [e_]; decide
          have n16_ : ¬ (h 0 i.toNatClampNeg &&& 63) = 16 := by rw [e_]; decide
          have n17_ : ¬ (h 0 i.toNatClampNeg &&& 63) = 17 := by rw [e_]; decide
          refine ev_tabIn 748 rfl (by rw [e_]; decide) (by rw [e_]; decide) (by rw [e_]; rfl) (by decide) ?_
          exact w_c_fault L true h i 0 0 hI h0 hi hL (fun h1 hI1 e1 => w_st L true h1 i 0 0 h0 hi hL (fun i' e' => ih i' h1 (by omega) hI1 (by omega)))
        · have n0_ : ¬ (h 0 i.toNatClampNeg &&& 63) = 0 := by rw [e_]; decide
          have n1_ : ¬ (h 0 i.toNatClampNeg &&& 63) = 1 := by rw [e_]; decide
          have n2_ : ¬ (h 0 i.toNatClampNeg &&& 63) = 2 := by rw [e_]; decide
          have n3_ : ¬ (h 0 i.toNatClampNeg &&& 63) = 3 := by rw [e_]; decide
          have n4_ : ¬ (h 0 i.toNatClampNeg &&& 63) = 4 := by rw [e_]; decide
          have n5_ : ¬ (h 0 i.toNatClampNeg &&& 63) = 5 := by rw [e_]; decide
          have n6_ : ¬ (h 0 i.toNatClampNeg &&& 63) = 6 := by rw [e_]; decide
          have n7_ : ¬ (h 0 i.toNatClampNeg &&& 63) = 7 := by rw [e_]; decide
          have n8_ : ¬ (h 0 i.toNatClampNeg &&& 63) = 8 := by rw [e_]; decide
          have n9_ : ¬ (h 0 i.toNatClampNeg &&& 63) = 9 := by rw [e_]; decide
          have n10_ : ¬ (h 0 i.toNatClampNeg &&& 63) = 10 := by rw [e_]; decide
          have n11_ : ¬ (h 0 i.toNatClampNeg &&& 63) = 11 := by rw [e_]; decide
          have n12_ : ¬ (h 0 i.toNatClampNeg &&& 63) = 12 := by rw [e_]; decide
          have n13_ : ¬ (h 0 i.toNatClampNeg &&& 63) = 13 := by rw [e_]; decide
          have n14_ : ¬ (h 0 i.toNatClampNeg &&& 63) = 14 := by rw [e_]; decide
          have n15_ : ¬ (h 0 i.toNatClampNeg &&& 63) = 15 := by rw [e_]; decide
          have n16_ : ¬ (h 0 i.toNatClampNeg &&& 63) = 16 := by rw [e_]; decide
          have n17_ : ¬ (h 0 i.toNatClampNeg &&& 63) = 17 := by rw [e_]; decide
          have n18_ : ¬ (h 0 i.toNatClampNeg &&& 63) = 18 := by rw [e_]; decide
          refine ev_tabIn 761 rfl (by rw [e_]; decide) (by rw [e_]; decide) (by rw [e_]; rfl) (by decide) ?_
          exact w_c_tuneOf L true h i 0 0 hI h0 hi hL (fun h1 hI1 e1 => w_st L true h1 i 0 0 h0 hi hL (fun i' e' => ih i' h1 (by omega) hI1 (by omega)))
        · have n0_ : ¬ (h 0 i.toNatClampNeg &&& 63) = 0 := by rw [e_]; decide
          have n1_ : ¬ (h 0 i.toNatClampNeg &&& 63) = 1 := by rw [e_]; decide
          have n2_ : ¬ (h 0 i.toNatClampNeg &&& 63) = 2 := by rw [e_]; decide
          have n3_ : ¬ (h 0 i.toNatClampNeg &&& 63) = 3 := by rw [e_]; decide
          have n4_ : ¬ (h 0 i.toNatClampNeg &&& 63) = 4 := by rw [e_]; decide
          have n5_ : ¬ (h 0 i.toNatClampNeg &&& 63) = 5 := by rw [e_]; decide
          have n6_ : ¬ (h 0 i.toNatClampNeg &&& 63) = 6 := by rw [e_]; decide
          have n7_ : ¬ (h 0 i.toNatClampNeg &&& 63) = 7 := by rw [e_]; decide
          have n8_ : ¬ (h 0 i.toNatClampNeg &&& 63) = 8 := by rw [e_]; decide
          have n9_ : ¬ (h 0 i.toNatClampNeg &&& 63) = 9 := by rw [e_]; decide
          have n10_ : ¬ (h 0 i.toNatClampNeg &&& 63) = 10 := by rw [e_]; decide
          have n11_ : ¬ (h 0 i.toNatClampNeg &&& 63) = 11 := by rw [e_]; decide
          have n12_ : ¬ (h 0 i.toNatClampNeg &&& 63) = 12 := by rw [e_]; decide
          have n13_ : ¬ (h 0 i.toNatClampNeg &&& 63) = 13 := by rw [e_]; decide
          have n14_ : ¬ (h 0 i.toNatClampNeg &&& 63) = 14 := by rw [e_]; decide
          have n15_ : ¬ (h 0 i.toNatClampNeg &&& 63) = 15 := by rw [e_]; decide
          have n16_ : ¬ (h 0 i.toNatClampNeg &&& 63) = 16 := by rw [e_]; decide
          have n17_ : ¬ (h 0 i.toNatClampNeg &&& 63) = 17 := by rw [e_]; decide
          have n18_ : ¬ (h 0 i.toNatClampNeg &&& 63) = 18 := by rw [e_]; decide
          have n19_ : ¬ (h 0 i.toNatClampNeg &&& 63) = 19 := by rw [e_]; decide
          refine ev_tabIn 794 rfl (by rw [e_]; decide) (by rw [e_]; decide) (by rw [e_]; rfl) (by decide) ?_
          exact w_c_play L true h i 0 0 hI h0 hi hL (fun h1 hI1 e1 => w_st L true h1 i 0 0 h0 hi hL (fun i' e' => ih i' h1 (by omega) hI1 (by omega)))
        · have n0_ : ¬ (h 0 i.toNatClampNeg &&& 63) = 0 := by rw [e_]; decide
          have n1_ : ¬ (h 0 i.toNatClampNeg &&& 63) = 1 := by rw [e_]; decide
          have n2_ : ¬ (h 0 i.toNatClampNeg &&& 63) = 2 := by rw [e_]; decide
          have n3_ : ¬ (h 0 i.toNatClampNeg &&& 63) = 3 := by rw [e_]; decide
          have n4_ : ¬ (h 0 i.toNatClampNeg &&& 63) = 4 := by rw [e_]; decide
          have n5_ : ¬ (h 0 i.toNatClampNeg &&& 63) = 5 := by rw [e_]; decide
          have n6_ : ¬ (h 0 i.toNatClampNeg &&& 63) = 6 := by rw [e_]; decide
          have n7_ : ¬ (h 0 i.toNatClampNeg &&& 63) = 7 := by rw [e_]; decide
          have n8_ : ¬ (h 0 i.toNatClampNeg &&& 63) = 8 := by rw [e_]; decide
          have n9_ : ¬ (h 0 i.toNatClampNeg &&& 63) = 9 := by rw [e_]; decide
          have n10_ : ¬ (h 0 i.toNatClampNeg &&& 63) = 10 := by rw [e_]; decide
          have n11_ : ¬ (h 0 i.toNatClampNeg &&& 63) = 11 := by rw [e_]; decide
          have n12_ : ¬ (h 0 i.toNatClampNeg &&& 63) = 12 := by rw [e_]; decide
          have n13_ : ¬ (h 0 i.toNatClampNeg &&& 63) = 13 := by rw [e_]; decide
          have n14_ : ¬ (h 0 i.toNatClampNeg &&& 63) = 14 := by rw [e_]; decide
          have n15_ : ¬ (h 0 i.toNatClampNeg &&& 63) = 15 := by rw [e_]; decide
          have n16_ : ¬ (h 0 i.toNatClampNeg &&& 63) = 16 := by rw [e_]; decide
          have n17_ : ¬ (h 0 i.toNatClampNeg &&& 63) = 17 := by rw [e_]; decide
          have n18_ : ¬ (h 0 i.toNatClampNeg &&& 63) = 18 := by rw [e_]; decide
          have n19_ : ¬ (h 0 i.toNatClampNeg &&& 63) = 19 := by rw [e_]; decide
          have n20_ : ¬ (h 0 i.toNatClampNeg &&& 63) = 20 := by rw [e_]; decide
          refine ev_tabIn 827 rfl (by rw [e_]; decide) (by rw [e_]; decide) (by rw [e_]; rfl) (by decide) ?_
          exact w_c_would L true h i 0 0 hI h0 hi hL (fun h1 hI1 e1 => w_st L true h1 i 0 0 h0 hi hL (fun i' e' => ih i' h1 (by omega) hI1 (by omega)))
        · have n0_ : ¬ (h 0 i.toNatClampNeg &&& 63) = 0 := by rw [e_]; decide
          have n1_ : ¬ (h 0 i.toNatClampNeg &&& 63) = 1 := by rw [e_]; decide
          have n2_ : ¬ (h 0 i.toNatClampNeg &&& 63) = 2 := by rw [e_]; decide
          have n3_ : ¬ (h 0 i.toNatClampNeg &&& 63) = 3 := by rw [e_]; decide
          have n4_ : ¬ (h 0 i.toNatClampNeg &&& 63) = 4 := by rw [e_]; decide
          have n5_ : ¬ (h 0 i.toNatClampNeg &&& 63) = 5 := by rw [e_]; decide
          have n6_ : ¬ (h 0 i.toNatClampNeg &&& 63) = 6 := by rw [e_]; decide
          have n7_ : ¬ (h 0 i.toNatClampNeg &&& 63) = 7 := by rw [e_]; decide
          have n8_ : ¬ (h 0 i.toNatClampNeg &&& 63) = 8 := by rw [e_]; decide
          have n9_ : ¬ (h 0 i.toNatClampNeg &&& 63) = 9 := by rw [e_]; decide
          have n10_ : ¬ (h 0 i.toNatClampNeg &&& 63) = 10 := by rw [e_]; decide
          have n11_ : ¬ (h 0 i.toNatClampNeg &&& 63) = 11 := by rw [e_]; decide
          have n12_ : ¬ (h 0 i.toNatClampNeg &&& 63) = 12 := by rw [e_]; decide
          have n13_ : ¬ (h 0 i.toNatClampNeg &&& 63) = 13 := by rw [e_]; decide
          have n14_ : ¬ (h 0 i.toNatClampNeg &&& 63) = 14 := by rw [e_]; decide
          have n15_ : ¬ (h 0 i.toNatClampNeg &&& 63) = 15 := by rw [e_]; decide
          have n16_ : ¬ (h 0 i.toNatClampNeg &&& 63) = 16 := by rw [e_]; decide
          have n17_ : ¬ (h 0 i.toNatClampNeg &&& 63) = 17 := by rw [e_]; decide
          have n18_ : ¬ (h 0 i.toNatClampNeg &&& 63) = 18 := by rw [e_]; decide
          have n19_ : ¬ (h 0 i.toNatClampNeg &&& 63) = 19 := by rw [e_]; decide
          have n20_ : ¬ (h 0 i.toNatClampNeg &&& 63) = 20 := by rw [e_]; decide
          have n21_ : ¬ (h 0 i.toNatClampNeg &&& 63) = 21 := by rw [e_]; decide
          refine ev_tabIn 860 rfl (by rw [e_]; decide) (by rw [e_]; decide) (by rw [e_]; rfl) (by decide) ?_
          exact w_c_key L true h i 0 0 hI h0 hi hL (fun h1 hI1 e1 => w_st L true h1 i 0 0 h0 hi hL (fun i' e' => ih i' h1 (by omega) hI1 (by omega)))
        · have n0_ : ¬ (h 0 i.toNatClampNeg &&& 63) = 0 := by rw [e_]; decide
          have n1_ : ¬ (h 0 i.toNatClampNeg &&& 63) = 1 := by rw [e_]; decide
          have n2_ : ¬ (h 0 i.toNatClampNeg &&& 63) = 2 := by rw [e_]; decide
          have n3_ : ¬ (h 0 i.toNatClampNeg &&& 63) = 3 := by rw [e_]; decide
          have n4_ : ¬ (h 0 i.toNatClampNeg &&& 63) = 4 := by rw [e_]; decide
          have n5_ : ¬ (h 0 i.toNatClampNeg &&& 63) = 5 := by rw [e_]; decide
          have n6_ : ¬ (h 0 i.toNatClampNeg &&& 63) = 6 := by rw [e_]; decide
          have n7_ : ¬ (h 0 i.toNatClampNeg &&& 63) = 7 := by rw [e_]; decide
          have n8_ : ¬ (h 0 i.toNatClampNeg &&& 63) = 8 := by rw [e_]; decide
          have n9_ : ¬ (h 0 i.toNatClampNeg &&& 63) = 9 := by rw [e_]; decide
          have n10_ : ¬ (h 0 i.toNatClampNeg &&& 63) = 10 := by rw [e_]; decide
          have n11_ : ¬ (h 0 i.toNatClampNeg &&& 63) = 11 := by rw [e_]; decide
          have n12_ : ¬ (h 0 i.toNatClampNeg &&& 63) = 12 := by rw [e_]; decide
          have n13_ : ¬ (h 0 i.toNatClampNeg &&& 63) = 13 := by rw [e_]; decide
          have n14_ : ¬ (h 0 i.toNatClampNeg &&& 63) = 14 := by rw [e_]; decide
          have n15_ : ¬ (h 0 i.toNatClampNeg &&& 63) = 15 := by rw [e_]; decide
          have n16_ : ¬ (h 0 i.toNatClampNeg &&& 63) = 16 := by rw [e_]; decide
          have n17_ : ¬ (h 0 i.toNatClampNeg &&& 63) = 17 := by rw [e_]; decide
          have n18_ : ¬ (h 0 i.toNatClampNeg &&& 63) = 18 := by rw [e_]; decide
          have n19_ : ¬ (h 0 i.toNatClampNeg &&& 63) = 19 := by rw [e_]; decide
          have n20_ : ¬ (h 0 i.toNatClampNeg &&& 63) = 20 := by rw [e_]; decide
          have n21_ : ¬ (h 0 i.toNatClampNeg &&& 63) = 21 := by rw [e_]; decide
          have n22_ : ¬ (h 0 i.toNatClampNeg &&& 63) = 22 := by rw [e_]; decide
          refine ev_tabIn 893 rfl (by rw [e_]; decide) (by rw [e_]; decide) (by rw [e_]; rfl) (by decide) ?_
          exact w_c_setT L h i 0 0 hI h0 hi hL (fun h1 hI1 => w_st L true h1 i 0 0 h0 hi hL (fun i' e' => ih i' h1 (by omega) hI1 (by omega)))
        · have n0_ : ¬ (h 0 i.toNatClampNeg &&& 63) = 0 := by rw [e_]; decide
          have n1_ : ¬ (h 0 i.toNatClampNeg &&& 63) = 1 := by rw [e_]; decide
          have n2_ : ¬ (h 0 i.toNatClampNeg &&& 63) = 2 := by rw [e_]; decide
          have n3_ : ¬ (h 0 i.toNatClampNeg &&& 63) = 3 := by rw [e_]; decide
          have n4_ : ¬ (h 0 i.toNatClampNeg &&& 63) = 4 := by rw [e_]; decide
          have n5_ : ¬ (h 0 i.toNatClampNeg &&& 63) = 5 := by rw [e_]; decide
          have n6_ : ¬ (h 0 i.toNatClampNeg &&& 63) = 6 := by rw [e_]; decide
          have n7_ : ¬ (h 0 i.toNatClampNeg &&& 63) = 7 := by rw [e_]; decide
          have n8_ : ¬ (h 0 i.toNatClampNeg &&& 63) = 8 := by rw [e_]; decide
          have n9_ : ¬ (h 0 i.toNatClampNeg &&& 63) = 9 := by rw [e_]; decide
          have n10_ : ¬ (h 0 i.toNatClampNeg &&& 63) = 10 := by rw [e_]; decide
          have n11_ : ¬ (h 0 i.toNatClampNeg &&& 63) = 11 := by rw [e_]; decide
          have n12_ : ¬ (h 0 i.toNatClampNeg &&& 63) = 12 := by rw [e_]; decide
          have n13_ : ¬ (h 0 i.toNatClampNeg &&& 63) = 13 := by rw [e_]; decide
          have n14_ : ¬ (h 0 i.toNatClampNeg &&& 63) = 14 := by rw [e_]; decide
          have n15_ : ¬ (h 0 i.toNatClampNeg &&& 63) = 15 := by rw [e_]; decide
          have n16_ : ¬ (h 0 i.toNatClampNeg &&& 63) = 16 := by rw [e_]; decide
          have n17_ : ¬ (h 0 i.toNatClampNeg &&& 63) = 17 := by rw [e_]; decide
          have n18_ : ¬ (h 0 i.toNatClampNeg &&& 63) = 18 := by rw [e_]; decide
          have n19_ : ¬ (h 0 i.toNatClampNeg &&& 63) = 19 := by rw [e_]; decide
          have n20_ : ¬ (h 0 i.toNatClampNeg &&& 63) = 20 := by rw [e_]; decide
          have n21_ : ¬ (h 0 i.toNatClampNeg &&& 63) = 21 := by rw [e_]; decide
          have n22_ : ¬ (h 0 i.toNatClampNeg &&& 63) = 22 := by rw [e_]; decide
          have n23_ : ¬ (h 0 i.toNatClampNeg &&& 63) = 23 := by rw [e_]; decide
          refine ev_tabIn 956 rfl (by rw [e_]; decide) (by rw [e_]; decide) (by rw [e_]; rfl) (by decide) ?_
          exact w_c_blame L true h i 0 0 hI h0 hi hL (fun h1 hI1 e1 => w_st L true h1 i 0 0 h0 hi hL (fun i' e' => ih i' h1 (by omega) hI1 (by omega)))
        · have n0_ : ¬ (h 0 i.toNatClampNeg &&& 63) = 0 := by rw [e_]; decide
          have n1_ : ¬ (h 0 i.toNatClampNeg &&& 63) = 1 := by rw [e_]; decide
          have n2_ : ¬ (h 0 i.toNatClampNeg &&& 63) = 2 := by rw [e_]; decide
          have n3_ : ¬ (h 0 i.toNatClampNeg &&& 63) = 3 := by rw [e_]; decide
          have n4_ : ¬ (h 0 i.toNatClampNeg &&& 63) = 4 := by rw [e_]; decide
          have n5_ : ¬ (h 0 i.toNatClampNeg &&& 63) = 5 := by rw [e_]; decide
          have n6_ : ¬ (h 0 i.toNatClampNeg &&& 63) = 6 := by rw [e_]; decide
          have n7_ : ¬ (h 0 i.toNatClampNeg &&& 63) = 7 := by rw [e_]; decide
          have n8_ : ¬ (h 0 i.toNatClampNeg &&& 63) = 8 := by rw [e_]; decide
          have n9_ : ¬ (h 0 i.toNatClampNeg &&& 63) = 9 := by rw [e_]; decide
          have n10_ : ¬ (h 0 i.toNatClampNeg &&& 63) = 10 := by rw [e_]; decide
          have n11_ : ¬ (h 0 i.toNatClampNeg &&& 63) = 11 := by rw [e_]; decide
          have n12_ : ¬ (h 0 i.toNatClampNeg &&& 63) = 12 := by rw [e_]; decide
          have n13_ : ¬ (h 0 i.toNatClampNeg &&& 63) = 13 := by rw [e_]; decide
          have n14_ : ¬ (h 0 i.toNatClampNeg &&& 63) = 14 := by rw [e_]; decide
          have n15_ : ¬ (h 0 i.toNatClampNeg &&& 63) = 15 := by rw [e_]; decide
          have n16_ : ¬ (h 0 i.toNatClampNeg &&& 63) = 16 := by rw [e_]; decide
          have n17_ : ¬ (h 0 i.toNatClampNeg &&& 63) = 17 := by rw [e_]; decide
          have n18_ : ¬ (h 0 i.toNatClampNeg &&& 63) = 18 := by rw [e_]; decide
          have n19_ : ¬ (h 0 i.toNatClampNeg &&& 63) = 19 := by rw [e_]; decide
          have n20_ : ¬ (h 0 i.toNatClampNeg &&& 63) = 20 := by rw [e_]; decide
          have n21_ : ¬ (h 0 i.toNatClampNeg &&& 63) = 21 := by rw [e_]; decide
          have n22_ : ¬ (h 0 i.toNatClampNeg &&& 63) = 22 := by rw [e_]; decide
          have n23_ : ¬ (h 0 i.toNatClampNeg &&& 63) = 23 := by rw [e_]; decide
          have n24_ : ¬ (h 0 i.toNatClampNeg &&& 63) = 24 := by rw [e_]; decide
          refine ev_tabIn 1043 rfl (by rw [e_]; decide) (by rw [e_]; decide) (by rw [e_]; rfl) (by decide) ?_
          exact w_c_boat L true h i 0 0 hI h0 hi hL (fun h1 hI1 e1 => w_st L true h1 i 0 0 h0 hi hL (fun i' e' => ih i' h1 (by omega) hI1 (by omega)))
        · have n0_ : ¬ (h 0 i.toNatClampNeg &&& 63) = 0 := by rw [e_]; decide
          have n1_ : ¬ (h 0 i.toNatClampNeg &&& 63) = 1 := by rw [e_]; decide
          have n2_ : ¬ (h 0 i.toNatClampNeg &&& 63) = 2 := by rw [e_]; decide
          have n3_ : ¬ (h 0 i.toNatClampNeg &&& 63) = 3 := by rw [e_]; decide
          have n4_ : ¬ (h 0 i.toNatClampNeg &&& 63) = 4 := by rw [e_]; decide
          have n5_ : ¬ (h 0 i.toNatClampNeg &&& 63) = 5 := by rw [e_]; decide
          have n6_ : ¬ (h 0 i.toNatClampNeg &&& 63) = 6 := by rw [e_]; decide
          have n7_ : ¬ (h 0 i.toNatClampNeg &&& 63) = 7 := by rw [e_]; decide
          have n8_ : ¬ (h 0 i.toNatClampNeg &&& 63) = 8 := by rw [e_]; decide
          have n9_ : ¬ (h 0 i.toNatClampNeg &&& 63) = 9 := by rw [e_]; decide
          have n10_ : ¬ (h 0 i.toNatClampNeg &&& 63) = 10 := by rw [e_]; decide
          have n11_ : ¬ (h 0 i.toNatClampNeg &&& 63) = 11 := by rw [e_]; decide
          have n12_ : ¬ (h 0 i.toNatClampNeg &&& 63) = 12 := by rw [e_]; decide
          have n13_ : ¬ (h 0 i.toNatClampNeg &&& 63) = 13 := by rw [e_]; decide
          have n14_ : ¬ (h 0 i.toNatClampNeg &&& 63) = 14 := by rw [e_]; decide
          have n15_ : ¬ (h 0 i.toNatClampNeg &&& 63) = 15 := by rw [e_]; decide
          have n16_ : ¬ (h 0 i.toNatClampNeg &&& 63) = 16 := by rw [e_]; decide
          have n17_ : ¬ (h 0 i.toNatClampNeg &&& 63) = 17 := by rw [e_]; decide
          have n18_ : ¬ (h 0 i.toNatClampNeg &&& 63) = 18 := by rw [e_]; decide
          have n19_ : ¬ (h 0 i.toNatClampNeg &&& 63) = 19 := by rw [e_]; decide
          have n20_ : ¬ (h 0 i.toNatClampNeg &&& 63) = 20 := by rw [e_]; decide
          have n21_ : ¬ (h 0 i.toNatClampNeg &&& 63) = 21 := by rw [e_]; decide
          have n22_ : ¬ (h 0 i.toNatClampNeg &&& 63) = 22 := by rw [e_]; decide
          have n23_ : ¬ (h 0 i.toNatClampNeg &&& 63) = 23 := by rw [e_]; decide
          have n24_ : ¬ (h 0 i.toNatClampNeg &&& 63) = 24 := by rw [e_]; decide
          have n25_ : ¬ (h 0 i.toNatClampNeg &&& 63) = 25 := by rw [e_]; decide
          refine ev_tabIn 1076 rfl (by rw [e_]; decide) (by rw [e_]; decide) (by rw [e_]; rfl) (by decide) ?_
          exact w_c_bend L true h i 0 0 hI h0 hi hL (fun h1 hI1 e1 => w_st L true h1 i 0 0 h0 hi hL (fun i' e' => ih i' h1 (by omega) hI1 (by omega)))
        · have n0_ : ¬ (h 0 i.toNatClampNeg &&& 63) = 0 := by rw [e_]; decide
          have n1_ : ¬ (h 0 i.toNatClampNeg &&& 63) = 1 := by rw [e_]; decide
          have n2_ : ¬ (h 0 i.toNatClampNeg &&& 63) = 2 := by rw [e_]; decide
          have n3_ : ¬ (h 0 i.toNatClampNeg &&& 63) = 3 := by rw [e_]; decide
          have n4_ : ¬ (h 0 i.toNatClampNeg &&& 63) = 4 := by rw [e_]; decide
          have n5_ : ¬ (h 0 i.toNatClampNeg &&& 63) = 5 := by rw [e_]; decide
          have n6_ : ¬ (h 0 i.toNatClampNeg &&& 63) = 6 := by rw [e_]; decide
          have n7_ : ¬ (h 0 i.toNatClampNeg &&& 63) = 7 := by rw [e_]; decide
          have n8_ : ¬ (h 0 i.toNatClampNeg &&& 63) = 8 := by rw [e_]; decide
          have n9_ : ¬ (h 0 i.toNatClampNeg &&& 63) = 9 := by rw [e_]; decide
          have n10_ : ¬ (h 0 i.toNatClampNeg &&& 63) = 10 := by rw [e_]; decide
          have n11_ : ¬ (h 0 i.toNatClampNeg &&& 63) = 11 := by rw [e_]; decide
          have n12_ : ¬ (h 0 i.toNatClampNeg &&& 63) = 12 := by rw [e_]; decide
          have n13_ : ¬ (h 0 i.toNatClampNeg &&& 63) = 13 := by rw [e_]; decide
          have n14_ : ¬ (h 0 i.toNatClampNeg &&& 63) = 14 := by rw [e_]; decide
          have n15_ : ¬ (h 0 i.toNatClampNeg &&& 63) = 15 := by rw [e_]; decide
          have n16_ : ¬ (h 0 i.toNatClampNeg &&& 63) = 16 := by rw [e_]; decide
          have n17_ : ¬ (h 0 i.toNatClampNeg &&& 63) = 17 := by rw [e_]; decide
          have n18_ : ¬ (h 0 i.toNatClampNeg &&& 63) = 18 := by rw [e_]; decide
          have n19_ : ¬ (h 0 i.toNatClampNeg &&& 63) = 19 := by rw [e_]; decide
          have n20_ : ¬ (h 0 i.toNatClampNeg &&& 63) = 20 := by rw [e_]; decide
          have n21_ : ¬ (h 0 i.toNatClampNeg &&& 63) = 21 := by rw [e_]; decide
          have n22_ : ¬ (h 0 i.toNatClampNeg &&& 63) = 22 := by rw [e_]; decide
          have n23_ : ¬ (h 0 i.toNatClampNeg &&& 63) = 23 := by rw [e_]; decide
          have n24_ : ¬ (h 0 i.toNatClampNeg &&& 63) = 24 := by rw [e_]; decide
          have n25_ : ¬ (h 0 i.toNatClampNeg &&& 63) = 25 := by rw [e_]; decide
          have n26_ : ¬ (h 0 i.toNatClampNeg &&& 63) = 26 := by rw [e_]; decide
          refine ev_tabIn 1109 rfl (by rw [e_]; decide) (by rw [e_]; decide) (by rw [e_]; rfl) (by decide) ?_
          exact w_c_speed L true h i 0 0 hI h0 hi hL (fun h1 hI1 e1 => w_st L true h1 i 0 0 h0 hi hL (fun i' e' => ih i' h1 (by omega) hI1 (by omega)))
        · have n0_ : ¬ (h 0 i.toNatClampNeg &&& 63) = 0 := by rw [e_]; decide
          have n1_ : ¬ (h 0 i.toNatClampNeg &&& 63) = 1 := by rw [e_]; decide
          have n2_ : ¬ (h 0 i.toNatClampNeg &&& 63) = 2 := by rw [e_]; decide
          have n3_ : ¬ (h 0 i.toNatClampNeg &&& 63) = 3 := by rw [e_]; decide
          have n4_ : ¬ (h 0 i.toNatClampNeg &&& 63) = 4 := by rw [e_]; decide
          have n5_ : ¬ (h 0 i.toNatClampNeg &&& 63) = 5 := by rw [e_]; decide
          have n6_ : ¬ (h 0 i.toNatClampNeg &&& 63) = 6 := by rw [e_]; decide
          have n7_ : ¬ (h 0 i.toNatClampNeg &&& 63) = 7 := by rw [e_]; decide
          have n8_ : ¬ (h 0 i.toNatClampNeg &&& 63) = 8 := by rw [e_]; decide
          have n9_ : ¬ (h 0 i.toNatClampNeg &&& 63) = 9 := by rw [e_]; decide
          have n10_ : ¬ (h 0 i.toNatClampNeg &&& 63) = 10 := by rw [e_]; decide
          have n11_ : ¬ (h 0 i.toNatClampNeg &&& 63) = 11 := by rw [e_]; decide
          have n12_ : ¬ (h 0 i.toNatClampNeg &&& 63) = 12 := by rw [e_]; decide
          have n13_ : ¬ (h 0 i.toNatClampNeg &&& 63) = 13 := by rw [e_]; decide
          have n14_ : ¬ (h 0 i.toNatClampNeg &&& 63) = 14 := by rw [e_]; decide
          have n15_ : ¬ (h 0 i.toNatClampNeg &&& 63) = 15 := by rw [e_]; decide
          have n16_ : ¬ (h 0 i.toNatClampNeg &&& 63) = 16 := by rw [e_]; decide
          have n17_ : ¬ (h 0 i.toNatClampNeg &&& 63) = 17 := by rw [e_]; decide
          have n18_ : ¬ (h 0 i.toNatClampNeg &&& 63) = 18 := by rw [e_]; decide
          have n19_ : ¬ (h 0 i.toNatClampNeg &&& 63) = 19 := by rw [e_]; decide
          have n20_ : ¬ (h 0 i.toNatClampNeg &&& 63) = 20 := by rw [e_]; decide
          have n21_ : ¬ (h 0 i.toNatClampNeg &&& 63) = 21 := by rw [e_]; decide
          have n22_ : ¬ (h 0 i.toNatClampNeg &&& 63) = 22 := by rw [e_]; decide
          have n23_ : ¬ (h 0 i.toNatClampNeg &&& 63) = 23 := by rw [e_]; decide
          have n24_ : ¬ (h 0 i.toNatClampNeg &&& 63) = 24 := by rw [e_]; decide
          have n25_ : ¬ (h 0 i.toNatClampNeg &&& 63) = 25 := by rw [e_]; decide
          have n26_ : ¬ (h 0 i.toNatClampNeg &&& 63) = 26 := by rw [e_]; decide
          have n27_ : ¬ (h 0 i.toNatClampNeg &&& 63) = 27 := by rw [e_]; decide
          refine ev_tabIn 1132 rfl (by rw [e_]; decide) (by rw [e_]; decide) (by rw [e_]; rfl) (by decide) ?_
          exact w_c_far L true h i 0 0 hI h0 hi hL (fun h1 hI1 e1 => w_st L true h1 i 0 0 h0 hi hL (fun i' e' => ih i' h1 (by omega) hI1 (by omega)))
        · have n0_ : ¬ (h 0 i.toNatClampNeg &&& 63) = 0 := by rw [e_]; decide
          have n1_ : ¬ (h 0 i.toNatClampNeg &&& 63) = 1 := by rw [e_]; decide
          have n2_ : ¬ (h 0 i.toNatClampNeg &&& 63) = 2 := by rw [e_]; decide
          have n3_ : ¬ (h 0 i.toNatClampNeg &&& 63) = 3 := by rw [e_]; decide
          have n4_ : ¬ (h 0 i.toNatClampNeg &&& 63) = 4 := by rw [e_]; decide
          have n5_ : ¬ (h 0 i.toNatClampNeg &&& 63) = 5 := by rw [e_]; decide
          have n6_ : ¬ (h 0 i.toNatClampNeg &&& 63) = 6 := by rw [e_]; decide
          have n7_ : ¬ (h 0 i.toNatClampNeg &&& 63) = 7 := by rw [e_]; decide
          have n8_ : ¬ (h 0 i.toNatClampNeg &&& 63) = 8 := by rw [e_]; decide
          have n9_ : ¬ (h 0 i.toNatClampNeg &&& 63) = 9 := by rw [e_]; decide
          have n10_ : ¬ (h 0 i.toNatClampNeg &&& 63) = 10 := by rw [e_]; decide
          have n11_ : ¬ (h 0 i.toNatClampNeg &&& 63) = 11 := by rw [e_]; decide
          have n12_ : ¬ (h 0 i.toNatClampNeg &&& 63) = 12 := by rw [e_]; decide
          have n13_ : ¬ (h 0 i.toNatClampNeg &&& 63) = 13 := by rw [e_]; decide
          have n14_ : ¬ (h 0 i.toNatClampNeg &&& 63) = 14 := by rw [e_]; decide
          have n15_ : ¬ (h 0 i.toNatClampNeg &&& 63) = 15 := by rw [e_]; decide
          have n16_ : ¬ (h 0 i.toNatClampNeg &&& 63) = 16 := by rw [e_]; decide
          have n17_ : ¬ (h 0 i.toNatClampNeg &&& 63) = 17 := by rw [e_]; decide
          have n18_ : ¬ (h 0 i.toNatClampNeg &&& 63) = 18 := by rw [e_]; decide
          have n19_ : ¬ (h 0 i.toNatClampNeg &&& 63) = 19 := by rw [e_]; decide
          have n20_ : ¬ (h 0 i.toNatClampNeg &&& 63) = 20 := by rw [e_]; decide
          have n21_ : ¬ (h 0 i.toNatClampNeg &&& 63) = 21 := by rw [e_]; decide
          have n22_ : ¬ (h 0 i.toNatClampNeg &&& 63) = 22 := by rw [e_]; decide
          have n23_ : ¬ (h 0 i.toNatClampNeg &&& 63) = 23 := by rw [e_]; decide
          have n24_ : ¬ (h 0 i.toNatClampNeg &&& 63) = 24 := by rw [e_]; decide
          have n25_ : ¬ (h 0 i.toNatClampNeg &&& 63) = 25 := by rw [e_]; decide
          have n26_ : ¬ (h 0 i.toNatClampNeg &&& 63) = 26 := by rw [e_]; decide
          have n27_ : ¬ (h 0 i.toNatClampNeg &&& 63) = 27 := by rw [e_]; decide
          have n28_ : ¬ (h 0 i.toNatClampNeg &&& 63) = 28 := by rw [e_]; decide
          refine ev_tabIn 1165 rfl (by rw [e_]; decide) (by rw [e_]; decide) (by rw [e_]; rfl) (by decide) ?_
          exact w_c_heard L true h i 0 0 hI h0 hi hL (fun h1 hI1 e1 => w_st L true h1 i 0 0 h0 hi hL (fun i' e' => ih i' h1 (by omega) hI1 (by omega)))
        · have n0_ : ¬ (h 0 i.toNatClampNeg &&& 63) = 0 := by rw [e_]; decide
          have n1_ : ¬ (h 0 i.toNatClampNeg &&& 63) = 1 := by rw [e_]; decide
          have n2_ : ¬ (h 0 i.toNatClampNeg &&& 63) = 2 := by rw [e_]; decide
          have n3_ : ¬ (h 0 i.toNatClampNeg &&& 63) = 3 := by rw [e_]; decide
          have n4_ : ¬ (h 0 i.toNatClampNeg &&& 63) = 4 := by rw [e_]; decide
          have n5_ : ¬ (h 0 i.toNatClampNeg &&& 63) = 5 := by rw [e_]; decide
          have n6_ : ¬ (h 0 i.toNatClampNeg &&& 63) = 6 := by rw [e_]; decide
          have n7_ : ¬ (h 0 i.toNatClampNeg &&& 63) = 7 := by rw [e_]; decide
          have n8_ : ¬ (h 0 i.toNatClampNeg &&& 63) = 8 := by rw [e_]; decide
          have n9_ : ¬ (h 0 i.toNatClampNeg &&& 63) = 9 := by rw [e_]; decide
          have n10_ : ¬ (h 0 i.toNatClampNeg &&& 63) = 10 := by rw [e_]; decide
          have n11_ : ¬ (h 0 i.toNatClampNeg &&& 63) = 11 := by rw [e_]; decide
          have n12_ : ¬ (h 0 i.toNatClampNeg &&& 63) = 12 := by rw [e_]; decide
          have n13_ : ¬ (h 0 i.toNatClampNeg &&& 63) = 13 := by rw [e_]; decide
          have n14_ : ¬ (h 0 i.toNatClampNeg &&& 63) = 14 := by rw [e_]; decide
          have n15_ : ¬ (h 0 i.toNatClampNeg &&& 63) = 15 := by rw [e_]; decide
          have n16_ : ¬ (h 0 i.toNatClampNeg &&& 63) = 16 := by rw [e_]; decide
          have n17_ : ¬ (h 0 i.toNatClampNeg &&& 63) = 17 := by rw [e_]; decide
          have n18_ : ¬ (h 0 i.toNatClampNeg &&& 63) = 18 := by rw [e_]; decide
          have n19_ : ¬ (h 0 i.toNatClampNeg &&& 63) = 19 := by rw [e_]; decide
          have n20_ : ¬ (h 0 i.toNatClampNeg &&& 63) = 20 := by rw [e_]; decide
          have n21_ : ¬ (h 0 i.toNatClampNeg &&& 63) = 21 := by rw [e_]; decide
          have n22_ : ¬ (h 0 i.toNatClampNeg &&& 63) = 22 := by rw [e_]; decide
          have n23_ : ¬ (h 0 i.toNatClampNeg &&& 63) = 23 := by rw [e_]; decide
          have n24_ : ¬ (h 0 i.toNatClampNeg &&& 63) = 24 := by rw [e_]; decide
          have n25_ : ¬ (h 0 i.toNatClampNeg &&& 63) = 25 := by rw [e_]; decide
          have n26_ : ¬ (h 0 i.toNatClampNeg &&& 63) = 26 := by rw [e_]; decide
          have n27_ : ¬ (h 0 i.toNatClampNeg &&& 63) = 27 := by rw [e_]; decide
          have n28_ : ¬ (h 0 i.toNatClampNeg &&& 63) = 28 := by rw [e_]; decide
          have n29_ : ¬ (h 0 i.toNatClampNeg &&& 63) = 29 := by rw [e_]; decide
          refine ev_tabIn 1208 rfl (by rw [e_]; decide) (by rw [e_]; decide) (by rw [e_]; rfl) (by decide) ?_
          exact w_c_step L true h i 0 0 hI h0 hi hL (fun h1 hI1 e1 => w_st L true h1 i 0 0 h0 hi hL (fun i' e' => ih i' h1 (by omega) hI1 (by omega)))
        · have n0_ : ¬ (h 0 i.toNatClampNeg &&& 63) = 0 := by rw [e_]; decide
          have n1_ : ¬ (h 0 i.toNatClampNeg &&& 63) = 1 := by rw [e_]; decide
          have n2_ : ¬ (h 0 i.toNatClampNeg &&& 63) = 2 := by rw [e_]; decide
          have n3_ : ¬ (h 0 i.toNatClampNeg &&& 63) = 3 := by rw [e_]; decide
          have n4_ : ¬ (h 0 i.toNatClampNeg &&& 63) = 4 := by rw [e_]; decide
          have n5_ : ¬ (h 0 i.toNatClampNeg &&& 63) = 5 := by rw [e_]; decide
          have n6_ : ¬ (h 0 i.toNatClampNeg &&& 63) = 6 := by rw [e_]; decide
          have n7_ : ¬ (h 0 i.toNatClampNeg &&& 63) = 7 := by rw [e_]; decide
          have n8_ : ¬ (h 0 i.toNatClampNeg &&& 63) = 8 := by rw [e_]; decide
          have n9_ : ¬ (h 0 i.toNatClampNeg &&& 63) = 9 := by rw [e_]; decide
          have n10_ : ¬ (h 0 i.toNatClampNeg &&& 63) = 10 := by rw [e_]; decide
          have n11_ : ¬ (h 0 i.toNatClampNeg &&& 63) = 11 := by rw [e_]; decide
          have n12_ : ¬ (h 0 i.toNatClampNeg &&& 63) = 12 := by rw [e_]; decide
          have n13_ : ¬ (h 0 i.toNatClampNeg &&& 63) = 13 := by rw [e_]; decide
          have n14_ : ¬ (h 0 i.toNatClampNeg &&& 63) = 14 := by rw [e_]; decide
          have n15_ : ¬ (h 0 i.toNatClampNeg &&& 63) = 15 := by rw [e_]; decide
          have n16_ : ¬ (h 0 i.toNatClampNeg &&& 63) = 16 := by rw [e_]; decide
          have n17_ : ¬ (h 0 i.toNatClampNeg &&& 63) = 17 := by rw [e_]; decide
          have n18_ : ¬ (h 0 i.toNatClampNeg &&& 63) = 18 := by rw [e_]; decide
          have n19_ : ¬ (h 0 i.toNatClampNeg &&& 63) = 19 := by rw [e_]; decide
          have n20_ : ¬ (h 0 i.toNatClampNeg &&& 63) = 20 := by rw [e_]; decide
          have n21_ : ¬ (h 0 i.toNatClampNeg &&& 63) = 21 := by rw [e_]; decide
          have n22_ : ¬ (h 0 i.toNatClampNeg &&& 63) = 22 := by rw [e_]; decide
          have n23_ : ¬ (h 0 i.toNatClampNeg &&& 63) = 23 := by rw [e_]; decide
          have n24_ : ¬ (h 0 i.toNatClampNeg &&& 63) = 24 := by rw [e_]; decide
          have n25_ : ¬ (h 0 i.toNatClampNeg &&& 63) = 25 := by rw [e_]; decide
          have n26_ : ¬ (h 0 i.toNatClampNeg &&& 63) = 26 := by rw [e_]; decide
          have n27_ : ¬ (h 0 i.toNatClampNeg &&& 63) = 27 := by rw [e_]; decide
          have n28_ : ¬ (h 0 i.toNatClampNeg &&& 63) = 28 := by rw [e_]; decide
          have n29_ : ¬ (h 0 i.toNatClampNeg &&& 63) = 29 := by rw [e_]; decide
          have n30_ : ¬ (h 0 i.toNatClampNeg &&& 63) = 30 := by rw [e_]; decide
          refine ev_tabIn 1251 rfl (by rw [e_]; decide) (by rw [e_]; decide) (by rw [e_]; rfl) (by decide) ?_
          exact w_c_undo L true h i 0 0 hI h0 hi hL (fun h1 hI1 e1 => w_st L true h1 i 0 0 h0 hi hL (fun i' e' => ih i' h1 (by omega) hI1 (by omega)))
        · have n0_ : ¬ (h 0 i.toNatClampNeg &&& 63) = 0 := by rw [e_]; decide
          have n1_ : ¬ (h 0 i.toNatClampNeg &&& 63) = 1 := by rw [e_]; decide
          have n2_ : ¬ (h 0 i.toNatClampNeg &&& 63) = 2 := by rw [e_]; decide
          have n3_ : ¬ (h 0 i.toNatClampNeg &&& 63) = 3 := by rw [e_]; decide
          have n4_ : ¬ (h 0 i.toNatClampNeg &&& 63) = 4 := by rw [e_]; decide
          have n5_ : ¬ (h 0 i.toNatClampNeg &&& 63) = 5 := by rw [e_]; decide
          have n6_ : ¬ (h 0 i.toNatClampNeg &&& 63) = 6 := by rw [e_]; decide
          have n7_ : ¬ (h 0 i.toNatClampNeg &&& 63) = 7 := by rw [e_]; decide
          have n8_ : ¬ (h 0 i.toNatClampNeg &&& 63) = 8 := by rw [e_]; decide
          have n9_ : ¬ (h 0 i.toNatClampNeg &&& 63) = 9 := by rw [e_]; decide
          have n10_ : ¬ (h 0 i.toNatClampNeg &&& 63) = 10 := by rw [e_]; decide
          have n11_ : ¬ (h 0 i.toNatClampNeg &&& 63) = 11 := by rw [e_]; decide
          have n12_ : ¬ (h 0 i.toNatClampNeg &&& 63) = 12 := by rw [e_]; decide
          have n13_ : ¬ (h 0 i.toNatClampNeg &&& 63) = 13 := by rw [e_]; decide
          have n14_ : ¬ (h 0 i.toNatClampNeg &&& 63) = 14 := by rw [e_]; decide
          have n15_ : ¬ (h 0 i.toNatClampNeg &&& 63) = 15 := by rw [e_]; decide
          have n16_ : ¬ (h 0 i.toNatClampNeg &&& 63) = 16 := by rw [e_]; decide
          have n17_ : ¬ (h 0 i.toNatClampNeg &&& 63) = 17 := by rw [e_]; decide
          have n18_ : ¬ (h 0 i.toNatClampNeg &&& 63) = 18 := by rw [e_]; decide
          have n19_ : ¬ (h 0 i.toNatClampNeg &&& 63) = 19 := by rw [e_]; decide
          have n20_ : ¬ (h 0 i.toNatClampNeg &&& 63) = 20 := by rw [e_]; decide
          have n21_ : ¬ (h 0 i.toNatClampNeg &&& 63) = 21 := by rw [e_]; decide
          have n22_ : ¬ (h 0 i.toNatClampNeg &&& 63) = 22 := by rw [e_]; decide
          have n23_ : ¬ (h 0 i.toNatClampNeg &&& 63) = 23 := by rw [e_]; decide
          have n24_ : ¬ (h 0 i.toNatClampNeg &&& 63) = 24 := by rw [e_]; decide
          have n25_ : ¬ (h 0 i.toNatClampNeg &&& 63) = 25 := by rw [e_]; decide
          have n26_ : ¬ (h 0 i.toNatClampNeg &&& 63) = 26 := by rw [e_]; decide
          have n27_ : ¬ (h 0 i.toNatClampNeg &&& 63) = 27 := by rw [e_]; decide
          have n28_ : ¬ (h 0 i.toNatClampNeg &&& 63) = 28 := by rw [e_]; decide
          have n29_ : ¬ (h 0 i.toNatClampNeg &&& 63) = 29 := by rw [e_]; decide
          have n30_ : ¬ (h 0 i.toNatClampNeg &&& 63) = 30 := by rw [e_]; decide
          have n31_ : ¬ (h 0 i.toNatClampNeg &&& 63) = 31 := by rw [e_]; decide
          refine ev_tabIn 1264 rfl (by rw [e_]; decide) (by rw [e_]; decide) (by rw [e_]; rfl) (by decide) ?_
          exact w_c_sheet L true h i 0 0 hI h0 hi hL (fun h1 hI1 e1 => w_st L true h1 i 0 0 h0 hi hL (fun i' e' => ih i' h1 (by omega) hI1 (by omega)))
        · have n0_ : ¬ (h 0 i.toNatClampNeg &&& 63) = 0 := by rw [e_]; decide
          have n1_ : ¬ (h 0 i.toNatClampNeg &&& 63) = 1 := by rw [e_]; decide
          have n2_ : ¬ (h 0 i.toNatClampNeg &&& 63) = 2 := by rw [e_]; decide
          have n3_ : ¬ (h 0 i.toNatClampNeg &&& 63) = 3 := by rw [e_]; decide
          have n4_ : ¬ (h 0 i.toNatClampNeg &&& 63) = 4 := by rw [e_]; decide
          have n5_ : ¬ (h 0 i.toNatClampNeg &&& 63) = 5 := by rw [e_]; decide
          have n6_ : ¬ (h 0 i.toNatClampNeg &&& 63) = 6 := by rw [e_]; decide
          have n7_ : ¬ (h 0 i.toNatClampNeg &&& 63) = 7 := by rw [e_]; decide
          have n8_ : ¬ (h 0 i.toNatClampNeg &&& 63) = 8 := by rw [e_]; decide
          have n9_ : ¬ (h 0 i.toNatClampNeg &&& 63) = 9 := by rw [e_]; decide
          have n10_ : ¬ (h 0 i.toNatClampNeg &&& 63) = 10 := by rw [e_]; decide
          have n11_ : ¬ (h 0 i.toNatClampNeg &&& 63) = 11 := by rw [e_]; decide
          have n12_ : ¬ (h 0 i.toNatClampNeg &&& 63) = 12 := by rw [e_]; decide
          have n13_ : ¬ (h 0 i.toNatClampNeg &&& 63) = 13 := by rw [e_]; decide
          have n14_ : ¬ (h 0 i.toNatClampNeg &&& 63) = 14 := by rw [e_]; decide
          have n15_ : ¬ (h 0 i.toNatClampNeg &&& 63) = 15 := by rw [e_]; decide
          have n16_ : ¬ (h 0 i.toNatClampNeg &&& 63) = 16 := by rw [e_]; decide
          have n17_ : ¬ (h 0 i.toNatClampNeg &&& 63) = 17 := by rw [e_]; decide
          have n18_ : ¬ (h 0 i.toNatClampNeg &&& 63) = 18 := by rw [e_]; decide
          have n19_ : ¬ (h 0 i.toNatClampNeg &&& 63) = 19 := by rw [e_]; decide
          have n20_ : ¬ (h 0 i.toNatClampNeg &&& 63) = 20 := by rw [e_]; decide
          have n21_ : ¬ (h 0 i.toNatClampNeg &&& 63) = 21 := by rw [e_]; decide
          have n22_ : ¬ (h 0 i.toNatClampNeg &&& 63) = 22 := by rw [e_]; decide
          have n23_ : ¬ (h 0 i.toNatClampNeg &&& 63) = 23 := by rw [e_]; decide
          have n24_ : ¬ (h 0 i.toNatClampNeg &&& 63) = 24 := by rw [e_]; decide
          have n25_ : ¬ (h 0 i.toNatClampNeg &&& 63) = 25 := by rw [e_]; decide
          have n26_ : ¬ (h 0 i.toNatClampNeg &&& 63) = 26 := by rw [e_]; decide
          have n27_ : ¬ (h 0 i.toNatClampNeg &&& 63) = 27 := by rw [e_]; decide
          have n28_ : ¬ (h 0 i.toNatClampNeg &&& 63) = 28 := by rw [e_]; decide
          have n29_ : ¬ (h 0 i.toNatClampNeg &&& 63) = 29 := by rw [e_]; decide
          have n30_ : ¬ (h 0 i.toNatClampNeg &&& 63) = 30 := by rw [e_]; decide
          have n31_ : ¬ (h 0 i.toNatClampNeg &&& 63) = 31 := by rw [e_]; decide
          have n32_ : ¬ (h 0 i.toNatClampNeg &&& 63) = 32 := by rw [e_]; decide
          refine ev_tabIn 1307 rfl (by rw [e_]; decide) (by rw [e_]; decide) (by rw [e_]; rfl) (by decide) ?_
          exact w_c_lay L true h i 0 0 hI h0 hi hL (fun h1 hI1 e1 => w_st L true h1 i 0 0 h0 hi hL (fun i' e' => ih i' h1 (by omega) hI1 (by omega)))
        · have n0_ : ¬ (h 0 i.toNatClampNeg &&& 63) = 0 := by rw [e_]; decide
          have n1_ : ¬ (h 0 i.toNatClampNeg &&& 63) = 1 := by rw [e_]; decide
          have n2_ : ¬ (h 0 i.toNatClampNeg &&& 63) = 2 := by rw [e_]; decide
          have n3_ : ¬ (h 0 i.toNatClampNeg &&& 63) = 3 := by rw [e_]; decide
          have n4_ : ¬ (h 0 i.toNatClampNeg &&& 63) = 4 := by rw [e_]; decide
          have n5_ : ¬ (h 0 i.toNatClampNeg &&& 63) = 5 := by rw [e_]; decide
          have n6_ : ¬ (h 0 i.toNatClampNeg &&& 63) = 6 := by rw [e_]; decide
          have n7_ : ¬ (h 0 i.toNatClampNeg &&& 63) = 7 := by rw [e_]; decide
          have n8_ : ¬ (h 0 i.toNatClampNeg &&& 63) = 8 := by rw [e_]; decide
          have n9_ : ¬ (h 0 i.toNatClampNeg &&& 63) = 9 := by rw [e_]; decide
          have n10_ : ¬ (h 0 i.toNatClampNeg &&& 63) = 10 := by rw [e_]; decide
          have n11_ : ¬ (h 0 i.toNatClampNeg &&& 63) = 11 := by rw [e_]; decide
          have n12_ : ¬ (h 0 i.toNatClampNeg &&& 63) = 12 := by rw [e_]; decide
          have n13_ : ¬ (h 0 i.toNatClampNeg &&& 63) = 13 := by rw [e_]; decide
          have n14_ : ¬ (h 0 i.toNatClampNeg &&& 63) = 14 := by rw [e_]; decide
          have n15_ : ¬ (h 0 i.toNatClampNeg &&& 63) = 15 := by rw [e_]; decide
          have n16_ : ¬ (h 0 i.toNatClampNeg &&& 63) = 16 := by rw [e_]; decide
          have n17_ : ¬ (h 0 i.toNatClampNeg &&& 63) = 17 := by rw [e_]; decide
          have n18_ : ¬ (h 0 i.toNatClampNeg &&& 63) = 18 := by rw [e_]; decide
          have n19_ : ¬ (h 0 i.toNatClampNeg &&& 63) = 19 := by rw [e_]; decide
          have n20_ : ¬ (h 0 i.toNatClampNeg &&& 63) = 20 := by rw [e_]; decide
          have n21_ : ¬ (h 0 i.toNatClampNeg &&& 63) = 21 := by rw [e_]; decide
          have n22_ : ¬ (h 0 i.toNatClampNeg &&& 63) = 22 := by rw [e_]; decide
          have n23_ : ¬ (h 0 i.toNatClampNeg &&& 63) = 23 := by rw [e_]; decide
          have n24_ : ¬ (h 0 i.toNatClampNeg &&& 63) = 24 := by rw [e_]; decide
          have n25_ : ¬ (h 0 i.toNatClampNeg &&& 63) = 25 := by rw [e_]; decide
          have n26_ : ¬ (h 0 i.toNatClampNeg &&& 63) = 26 := by rw [e_]; decide
          have n27_ : ¬ (h 0 i.toNatClampNeg &&& 63) = 27 := by rw [e_]; decide
          have n28_ : ¬ (h 0 i.toNatClampNeg &&& 63) = 28 := by rw [e_]; decide
          have n29_ : ¬ (h 0 i.toNatClampNeg &&& 63) = 29 := by rw [e_]; decide
          have n30_ : ¬ (h 0 i.toNatClampNeg &&& 63) = 30 := by rw [e_]; decide
          have n31_ : ¬ (h 0 i.toNatClampNeg &&& 63) = 31 := by rw [e_]; decide
          have n32_ : ¬ (h 0 i.toNatClampNeg &&& 63) = 32 := by rw [e_]; decide
          have n33_ : ¬ (h 0 i.toNatClampNeg &&& 63) = 33 := by rw [e_]; decide
          refine ev_tabIn 1350 rfl (by rw [e_]; decide) (by rw [e_]; decide) (by rw [e_]; rfl) (by decide) ?_
          exact w_c_scan L true h i 0 0 hI h0 hi hL (fun h1 hI1 e1 => w_st L true h1 i 0 0 h0 hi hL (fun i' e' => ih i' h1 (by omega) hI1 (by omega)))
        · have n0_ : ¬ (h 0 i.toNatClampNeg &&& 63) = 0 := by rw [e_]; decide
          have n1_ : ¬ (h 0 i.toNatClampNeg &&& 63) = 1 := by rw [e_]; decide
          have n2_ : ¬ (h 0 i.toNatClampNeg &&& 63) = 2 := by rw [e_]; decide
          have n3_ : ¬ (h 0 i.toNatClampNeg &&& 63) = 3 := by rw [e_]; decide
          have n4_ : ¬ (h 0 i.toNatClampNeg &&& 63) = 4 := by rw [e_]; decide
          have n5_ : ¬ (h 0 i.toNatClampNeg &&& 63) = 5 := by rw [e_]; decide
          have n6_ : ¬ (h 0 i.toNatClampNeg &&& 63) = 6 := by rw [e_]; decide
          have n7_ : ¬ (h 0 i.toNatClampNeg &&& 63) = 7 := by rw [e_]; decide
          have n8_ : ¬ (h 0 i.toNatClampNeg &&& 63) = 8 := by rw [e_]; decide
          have n9_ : ¬ (h 0 i.toNatClampNeg &&& 63) = 9 := by rw [e_]; decide
          have n10_ : ¬ (h 0 i.toNatClampNeg &&& 63) = 10 := by rw [e_]; decide
          have n11_ : ¬ (h 0 i.toNatClampNeg &&& 63) = 11 := by rw [e_]; decide
          have n12_ : ¬ (h 0 i.toNatClampNeg &&& 63) = 12 := by rw [e_]; decide
          have n13_ : ¬ (h 0 i.toNatClampNeg &&& 63) = 13 := by rw [e_]; decide
          have n14_ : ¬ (h 0 i.toNatClampNeg &&& 63) = 14 := by rw [e_]; decide
          have n15_ : ¬ (h 0 i.toNatClampNeg &&& 63) = 15 := by rw [e_]; decide
          have n16_ : ¬ (h 0 i.toNatClampNeg &&& 63) = 16 := by rw [e_]; decide
          have n17_ : ¬ (h 0 i.toNatClampNeg &&& 63) = 17 := by rw [e_]; decide
          have n18_ : ¬ (h 0 i.toNatClampNeg &&& 63) = 18 := by rw [e_]; decide
          have n19_ : ¬ (h 0 i.toNatClampNeg &&& 63) = 19 := by rw [e_]; decide
          have n20_ : ¬ (h 0 i.toNatClampNeg &&& 63) = 20 := by rw [e_]; decide
          have n21_ : ¬ (h 0 i.toNatClampNeg &&& 63) = 21 := by rw [e_]; decide
          have n22_ : ¬ (h 0 i.toNatClampNeg &&& 63) = 22 := by rw [e_]; decide
          have n23_ : ¬ (h 0 i.toNatClampNeg &&& 63) = 23 := by rw [e_]; decide
          have n24_ : ¬ (h 0 i.toNatClampNeg &&& 63) = 24 := by rw [e_]; decide
          have n25_ : ¬ (h 0 i.toNatClampNeg &&& 63) = 25 := by rw [e_]; decide
          have n26_ : ¬ (h 0 i.toNatClampNeg &&& 63) = 26 := by rw [e_]; decide
          have n27_ : ¬ (h 0 i.toNatClampNeg &&& 63) = 27 := by rw [e_]; decide
          have n28_ : ¬ (h 0 i.toNatClampNeg &&& 63) = 28 := by rw [e_]; decide
          have n29_ : ¬ (h 0 i.toNatClampNeg &&& 63) = 29 := by rw [e_]; decide
          have n30_ : ¬ (h 0 i.toNatClampNeg &&& 63) = 30 := by rw [e_]; decide
          have n31_ : ¬ (h 0 i.toNatClampNeg &&& 63) = 31 := by rw [e_]; decide
          have n32_ : ¬ (h 0 i.toNatClampNeg &&& 63) = 32 := by rw [e_]; decide
          have n33_ : ¬ (h 0 i.toNatClampNeg &&& 63) = 33 := by rw [e_]; decide
          have n34_ : ¬ (h 0 i.toNatClampNeg &&& 63) = 34 := by rw [e_]; decide
          refine ev_tabIn 1403 rfl (by rw [e_]; decide) (by rw [e_]; decide) (by rw [e_]; rfl) (by decide) ?_
          exact w_c_count L true h i 0 0 hI h0 hi hL (fun h1 hI1 e1 => w_st L true h1 i 0 0 h0 hi hL (fun i' e' => ih i' h1 (by omega) hI1 (by omega)))

set_option maxRecDepth 100000 in
set_option maxHeartbeats 4000000 in
theorem w_loopF (L : Nat) (hL : L ≤ 4096) : ∀ (n : Nat) (i : Int32) (h : Hp), 0 ≤ i.toInt → INV h → FT h → (L : Int) + 1 - i.toInt ≤ (n : Int) → EvQ mi_L_law 18 [some (.ref 0), some (.ref 1), some (.ref 63), some (.int i)] [] (G0 L false) h 1 45225 QL := by
  intro n
  induction n with
  | zero =>
    intro i h h0 hI hz hm
    refine ev_iload_n rfl rfl rfl ?_
    refine ev_aload_n rfl rfl rfl ?_
    refine ev_alen rfl rfl rfl ?_
    refine ev_bipush (v := 8) rfl rfl (by decide) ?_
    refine ev_isub rfl rfl ?_
    refine ev_icmp_gt rfl rfl (fun c_24 => ?_) (fun z_ => absurd (ix_gt h0 hL (by omega)) z_)
    refine ev_iconst (v := 1) rfl rfl (by decide) ?_
    exact ev_iret rfl rfl rfl (rfl)
  | succ n ih =>
    intro i h h0 hI hz hm
    refine ev_iload_n rfl rfl rfl ?_
    refine ev_aload_n rfl rfl rfl ?_
    refine ev_alen rfl rfl rfl ?_
    refine ev_bipush (v := 8) rfl rfl (by decide) ?_
    refine ev_isub rfl rfl ?_
    refine ev_icmp_gt rfl rfl (fun c_24 => ?_) (fun c_24 => ?_)
    · refine ev_iconst (v := 1) rfl rfl (by decide) ?_
      exact ev_iret rfl rfl rfl (rfl)
    · have hi : i.toInt + 8 ≤ (L : Int) := ix_le h0 hL c_24
      refine ev_aload_n rfl rfl rfl ?_
      refine ev_iload_n rfl rfl rfl ?_
      refine ev_iald rfl rfl rfl (ix_0 h0 hi hL) rfl ?_
      refine ev_bipush (v := 63) rfl rfl (by decide) ?_
      refine ev_iand rfl rfl ?_
      rcases ev_sw (h 0 i.toNatClampNeg &&& 63) 0 35 with w_ | ⟨w_, w2_⟩
      · have n0_ : ¬ (h 0 i.toNatClampNeg &&& 63) = 0 := fun e_ => by rw [e_] at w_; exact absurd w_ (by decide)
        have n1_ : ¬ (h 0 i.toNatClampNeg &&& 63) = 1 := fun e_ => by rw [e_] at w_; exact absurd w_ (by decide)
        have n2_ : ¬ (h 0 i.toNatClampNeg &&& 63) = 2 := fun e_ => by rw [e_] at w_; exact absurd w_ (by decide)
        have n3_ : ¬ (h 0 i.toNatClampNeg &&& 63) = 3 := fun e_ => by rw [e_] at w_; exact absurd w_ (by decide)
        have n4_ : ¬ (h 0 i.toNatClampNeg &&& 63) = 4 := fun e_ => by rw [e_] at w_; exact absurd w_ (by decide)
        have n5_ : ¬ (h 0 i.toNatClampNeg &&& 63) = 5 := fun e_ => by rw [e_] at w_; exact absurd w_ (by decide)
        have n6_ : ¬ (h 0 i.toNatClampNeg &&& 63) = 6 := fun e_ => by rw [e_] at w_; exact absurd w_ (by decide)
        have n7_ : ¬ (h 0 i.toNatClampNeg &&& 63) = 7 := fun e_ => by rw [e_] at w_; exact absurd w_ (by decide)
        have n8_ : ¬ (h 0 i.toNatClampNeg &&& 63) = 8 := fun e_ => by rw [e_] at w_; exact absurd w_ (by decide)
        have n9_ : ¬ (h 0 i.toNatClampNeg &&& 63) = 9 := fun e_ => by rw [e_] at w_; exact absurd w_ (by decide)
        have n10_ : ¬ (h 0 i.toNatClampNeg &&& 63) = 10 := fun e_ => by rw [e_] at w_; exact absurd w_ (by decide)
        have n11_ : ¬ (h 0 i.toNatClampNeg &&& 63) = 11 := fun e_ => by rw [e_] at w_; exact absurd w_ (by decide)
        have n12_ : ¬ (h 0 i.toNatClampNeg &&& 63) = 12 := fun e_ => by rw [e_] at w_; exact absurd w_ (by decide)
        have n13_ : ¬ (h 0 i.toNatClampNeg &&& 63) = 13 := fun e_ => by rw [e_] at w_; exact absurd w_ (by decide)
        have n14_ : ¬ (h 0 i.toNatClampNeg &&& 63) = 14 := fun e_ => by rw [e_] at w_; exact absurd w_ (by decide)
        have n15_ : ¬ (h 0 i.toNatClampNeg &&& 63) = 15 := fun e_ => by rw [e_] at w_; exact absurd w_ (by decide)
        have n16_ : ¬ (h 0 i.toNatClampNeg &&& 63) = 16 := fun e_ => by rw [e_] at w_; exact absurd w_ (by decide)
        have n17_ : ¬ (h 0 i.toNatClampNeg &&& 63) = 17 := fun e_ => by rw [e_] at w_; exact absurd w_ (by decide)
        have n18_ : ¬ (h 0 i.toNatClampNeg &&& 63) = 18 := fun e_ => by rw [e_] at w_; exact absurd w_ (by decide)
        have n19_ : ¬ (h 0 i.toNatClampNeg &&& 63) = 19 := fun e_ => by rw [e_] at w_; exact absurd w_ (by decide)
        have n20_ : ¬ (h 0 i.toNatClampNeg &&& 63) = 20 := fun e_ => by rw [e_] at w_; exact absurd w_ (by decide)
        have n21_ : ¬ (h 0 i.toNatClampNeg &&& 63) = 21 := fun e_ => by rw [e_] at w_; exact absurd w_ (by decide)
        have n22_ : ¬ (h 0 i.toNatClampNeg &&& 63) = 22 := fun e_ => by rw [e_] at w_; exact absurd w_ (by decide)
        have n23_ : ¬ (h 0 i.toNatClampNeg &&& 63) = 23 := fun e_ => by rw [e_] at w_; exact absurd w_ (by decide)
        have n24_ : ¬ (h 0 i.toNatClampNeg &&& 63) = 24 := fun e_ => by rw [e_] at w_; exact absurd w_ (by decide)
        have n25_ : ¬ (h 0 i.toNatClampNeg &&& 63) = 25 := fun e_ => by rw [e_] at w_; exact absurd w_ (by decide)
        have n26_ : ¬ (h 0 i.toNatClampNeg &&& 63) = 26 := fun e_ => by rw [e_] at w_; exact absurd w_ (by decide)
        have n27_ : ¬ (h 0 i.toNatClampNeg &&& 63) = 27 := fun e_ => by rw [e_] at w_; exact absurd w_ (by decide)
        have n28_ : ¬ (h 0 i.toNatClampNeg &&& 63) = 28 := fun e_ => by rw [e_] at w_; exact absurd w_ (by decide)
        have n29_ : ¬ (h 0 i.toNatClampNeg &&& 63) = 29 := fun e_ => by rw [e_] at w_; exact absurd w_ (by decide)
        have n30_ : ¬ (h 0 i.toNatClampNeg &&& 63) = 30 := fun e_ => by rw [e_] at w_; exact absurd w_ (by decide)
        have n31_ : ¬ (h 0 i.toNatClampNeg &&& 63) = 31 := fun e_ => by rw [e_] at w_; exact absurd w_ (by decide)
        have n32_ : ¬ (h 0 i.toNatClampNeg &&& 63) = 32 := fun e_ => by rw [e_] at w_; exact absurd w_ (by decide)
        have n33_ : ¬ (h 0 i.toNatClampNeg &&& 63) = 33 := fun e_ => by rw [e_] at w_; exact absurd w_ (by decide)
        have n34_ : ¬ (h 0 i.toNatClampNeg &&& 63) = 34 := fun e_ => by rw [e_] at w_; exact absurd w_ (by decide)
        have n35_ : ¬ (h 0 i.toNatClampNeg &&& 63) = 35 := fun e_ => by rw [e_] at w_; exact absurd w_ (by decide)
        refine ev_tabOut 1426 rfl w_ (by decide) ?_
        exact w_st L false h i 1 45225 h0 hi hL (fun i' e' => ih i' h (by omega) hI hz (by omega))
      · have w3_ : (h 0 i.toNatClampNeg &&& 63) = 0 ∨ (h 0 i.toNatClampNeg &&& 63) = 1 ∨ (h 0 i.toNatClampNeg &&& 63) = 2 ∨ (h 0 i.toNatClampNeg &&& 63) = 3 ∨ (h 0 i.toNatClampNeg &&& 63) = 4 ∨ (h 0 i.toNatClampNeg &&& 63) = 5 ∨ (h 0 i.toNatClampNeg &&& 63) = 6 ∨ (h 0 i.toNatClampNeg &&& 63) = 7 ∨ (h 0 i.toNatClampNeg &&& 63) = 8 ∨ (h 0 i.toNatClampNeg &&& 63) = 9 ∨ (h 0 i.toNatClampNeg &&& 63) = 10 ∨ (h 0 i.toNatClampNeg &&& 63) = 11 ∨ (h 0 i.toNatClampNeg &&& 63) = 12 ∨ (h 0 i.toNatClampNeg &&& 63) = 13 ∨ (h 0 i.toNatClampNeg &&& 63) = 14 ∨ (h 0 i.toNatClampNeg &&& 63) = 15 ∨ (h 0 i.toNatClampNeg &&& 63) = 16 ∨ (h 0 i.toNatClampNeg &&& 63) = 17 ∨ (h 0 i.toNatClampNeg &&& 63) = 18 ∨ (h 0 i.toNatClampNeg &&& 63) = 19 ∨ (h 0 i.toNatClampNeg &&& 63) = 20 ∨ (h 0 i.toNatClampNeg &&& 63) = 21 ∨ (h 0 i.toNatClampNeg &&& 63) = 22 ∨ (h 0 i.toNatClampNeg &&& 63) = 23 ∨ (h 0 i.toNatClampNeg &&& 63) = 24 ∨ (h 0 i.toNatClampNeg &&& 63) = 25 ∨ (h 0 i.toNatClampNeg &&& 63) = 26 ∨ (h 0 i.toNatClampNeg &&& 63) = 27 ∨ (h 0 i.toNatClampNeg &&& 63) = 28 ∨ (h 0 i.toNatClampNeg &&& 63) = 29 ∨ (h 0 i.toNatClampNeg &&& 63) = 30 ∨ (h 0 i.toNatClampNeg &&& 63) = 31 ∨ (h 0 i.toNatClampNeg &&& 63) = 32 ∨ (h 0 i.toNatClampNeg &&& 63) = 33 ∨ (h 0 i.toNatClampNeg &&& 63) = 34 ∨ (h 0 i.toNatClampNeg &&& 63) = 35 := by simp only [← Int32.toInt_inj]; have e_ := w_; have e2_ := w2_; simp only [Int32.reduceToInt] at *; omega
        rcases w3_ with e_ | e_ | e_ | e_ | e_ | e_ | e_ | e_ | e_ | e_ | e_ | e_ | e_ | e_ | e_ | e_ | e_ | e_ | e_ | e_ | e_ | e_ | e_ | e_ | e_ | e_ | e_ | e_ | e_ | e_ | e_ | e_ | e_ | e_ | e_ | e_
        · refine ev_tabIn 192 rfl (by rw [e_]; decide) (by rw [e_]; decide) (by rw [e_]; rfl) (by decide) ?_
          exact w_c_fire L false h i 1 45225 hI h0 hi hL (fun h1 hI1 e1 => w_st L false h1 i 1 45225 h0 hi hL (fun i' e' => ih i' h1 (by omega) hI1 (e1.ft hz) (by omega)))
        · have n0_ : ¬ (h 0 i.toNatClampNeg &&& 63) = 0 := by rw [e_]; decide
          refine ev_tabIn 215 rfl (by rw [e_]; decide) (by rw [e_]; decide) (by rw [e_]; rfl) (by decide) ?_
          exact w_c_water L false h i 1 45225 hI h0 hi hL (fun h1 hI1 e1 => w_st L false h1 i 1 45225 h0 hi hL (fun i' e' => ih i' h1 (by omega) hI1 (e1.ft hz) (by omega)))
        · have n0_ : ¬ (h 0 i.toNatClampNeg &&& 63) = 0 := by rw [e_]; decide
          have n1_ : ¬ (h 0 i.toNatClampNeg &&& 63) = 1 := by rw [e_]; decide
          refine ev_tabIn 238 rfl (by rw [e_]; decide) (by rw [e_]; decide) (by rw [e_]; rfl) (by decide) ?_
          exact w_c_valve L false h i 1 45225 hI h0 hi hL (fun h1 hI1 e1 => w_st L false h1 i 1 45225 h0 hi hL (fun i' e' => ih i' h1 (by omega) hI1 (e1.ft hz) (by omega)))
        · have n0_ : ¬ (h 0 i.toNatClampNeg &&& 63) = 0 := by rw [e_]; decide
          have n1_ : ¬ (h 0 i.toNatClampNeg &&& 63) = 1 := by rw [e_]; decide
          have n2_ : ¬ (h 0 i.toNatClampNeg &&& 63) = 2 := by rw [e_]; decide
          refine ev_tabIn 261 rfl (by rw [e_]; decide) (by rw [e_]; decide) (by rw [e_]; rfl) (by decide) ?_
          exact w_c_pressure L false h i 1 45225 hI h0 hi hL (fun h1 hI1 e1 => w_st L false h1 i 1 45225 h0 hi hL (fun i' e' => ih i' h1 (by omega) hI1 (e1.ft hz) (by omega)))
        · have n0_ : ¬ (h 0 i.toNatClampNeg &&& 63) = 0 := by rw [e_]; decide
          have n1_ : ¬ (h 0 i.toNatClampNeg &&& 63) = 1 := by rw [e_]; decide
          have n2_ : ¬ (h 0 i.toNatClampNeg &&& 63) = 2 := by rw [e_]; decide
          have n3_ : ¬ (h 0 i.toNatClampNeg &&& 63) = 3 := by rw [e_]; decide
          refine ev_tabIn 284 rfl (by rw [e_]; decide) (by rw [e_]; decide) (by rw [e_]; rfl) (by decide) ?_
          exact w_c_boiler L false h i 1 45225 hI h0 hi hL (fun h1 hI1 e1 => w_st L false h1 i 1 45225 h0 hi hL (fun i' e' => ih i' h1 (by omega) hI1 (e1.ft hz) (by omega)))
        · have n0_ : ¬ (h 0 i.toNatClampNeg &&& 63) = 0 := by rw [e_]; decide
          have n1_ : ¬ (h 0 i.toNatClampNeg &&& 63) = 1 := by rw [e_]; decide
          have n2_ : ¬ (h 0 i.toNatClampNeg &&& 63) = 2 := by rw [e_]; decide
          have n3_ : ¬ (h 0 i.toNatClampNeg &&& 63) = 3 := by rw [e_]; decide
          have n4_ : ¬ (h 0 i.toNatClampNeg &&& 63) = 4 := by rw [e_]; decide
          refine ev_tabIn 307 rfl (by rw [e_]; decide) (by rw [e_]; decide) (by rw [e_]; rfl) (by decide) ?_
          exact w_c_beat L false h i 1 45225 hI h0 hi hL (fun h1 hI1 e1 => w_st L false h1 i 1 45225 h0 hi hL (fun i' e' => ih i' h1 (by omega) hI1 (e1.ft hz) (by omega)))
        · have n0_ : ¬ (h 0 i.toNatClampNeg &&& 63) = 0 := by rw [e_]; decide
          have n1_ : ¬ (h 0 i.toNatClampNeg &&& 63) = 1 := by rw [e_]; decide
          have n2_ : ¬ (h 0 i.toNatClampNeg &&& 63) = 2 := by rw [e_]; decide
          have n3_ : ¬ (h 0 i.toNatClampNeg &&& 63) = 3 := by rw [e_]; decide
          have n4_ : ¬ (h 0 i.toNatClampNeg &&& 63) = 4 := by rw [e_]; decide
          have n5_ : ¬ (h 0 i.toNatClampNeg &&& 63) = 5 := by rw [e_]; decide
          refine ev_tabIn 330 rfl (by rw [e_]; decide) (by rw [e_]; decide) (by rw [e_]; rfl) (by decide) ?_
          exact w_c_whistle L false h i 1 45225 hI h0 hi hL (fun h1 hI1 e1 => w_st L false h1 i 1 45225 h0 hi hL (fun i' e' => ih i' h1 (by omega) hI1 (e1.ft hz) (by omega)))
        · have n0_ : ¬ (h 0 i.toNatClampNeg &&& 63) = 0 := by rw [e_]; decide
          have n1_ : ¬ (h 0 i.toNatClampNeg &&& 63) = 1 := by rw [e_]; decide
          have n2_ : ¬ (h 0 i.toNatClampNeg &&& 63) = 2 := by rw [e_]; decide
          have n3_ : ¬ (h 0 i.toNatClampNeg &&& 63) = 3 := by rw [e_]; decide
          have n4_ : ¬ (h 0 i.toNatClampNeg &&& 63) = 4 := by rw [e_]; decide
          have n5_ : ¬ (h 0 i.toNatClampNeg &&& 63) = 5 := by rw [e_]; decide
          have n6_ : ¬ (h 0 i.toNatClampNeg &&& 63) = 6 := by rw [e_]; decide
          refine ev_tabIn 399 rfl (by rw [e_]; decide) (by rw [e_]; decide) (by rw [e_]; rfl) (by decide) ?_
          exact w_c_told L false h i 1 45225 hI h0 hi hL (fun h1 hI1 e1 => w_st L false h1 i 1 45225 h0 hi hL (fun i' e' => ih i' h1 (by omega) hI1 (e1.ft hz) (by omega)))
        · have n0_ : ¬ (h 0 i.toNatClampNeg &&& 63) = 0 := by rw [e_]; decide
          have n1_ : ¬ (h 0 i.toNatClampNeg &&& 63) = 1 := by rw [e_]; decide
          have n2_ : ¬ (h 0 i.toNatClampNeg &&& 63) = 2 := by rw [e_]; decide
          have n3_ : ¬ (h 0 i.toNatClampNeg &&& 63) = 3 := by rw [e_]; decide
          have n4_ : ¬ (h 0 i.toNatClampNeg &&& 63) = 4 := by rw [e_]; decide
          have n5_ : ¬ (h 0 i.toNatClampNeg &&& 63) = 5 := by rw [e_]; decide
          have n6_ : ¬ (h 0 i.toNatClampNeg &&& 63) = 6 := by rw [e_]; decide
          have n7_ : ¬ (h 0 i.toNatClampNeg &&& 63) = 7 := by rw [e_]; decide
          refine ev_tabIn 432 rfl (by rw [e_]; decide) (by rw [e_]; decide) (by rw [e_]; rfl) (by decide) ?_
          exact w_c_stem L false h i 1 45225 hI h0 hi hL (fun h1 hI1 e1 => w_st L false h1 i 1 45225 h0 hi hL (fun i' e' => ih i' h1 (by omega) hI1 (e1.ft hz) (by omega)))
        · have n0_ : ¬ (h 0 i.toNatClampNeg &&& 63) = 0 := by rw [e_]; decide
          have n1_ : ¬ (h 0 i.toNatClampNeg &&& 63) = 1 := by rw [e_]; decide
          have n2_ : ¬ (h 0 i.toNatClampNeg &&& 63) = 2 := by rw [e_]; decide
          have n3_ : ¬ (h 0 i.toNatClampNeg &&& 63) = 3 := by rw [e_]; decide
          have n4_ : ¬ (h 0 i.toNatClampNeg &&& 63) = 4 := by rw [e_]; decide
          have n5_ : ¬ (h 0 i.toNatClampNeg &&& 63) = 5 := by rw [e_]; decide
          have n6_ : ¬ (h 0 i.toNatClampNeg &&& 63) = 6 := by rw [e_]; decide
          have n7_ : ¬ (h 0 i.toNatClampNeg &&& 63) = 7 := by rw [e_]; decide
          have n8_ : ¬ (h 0 i.toNatClampNeg &&& 63) = 8 := by rw [e_]; decide
          refine ev_tabIn 465 rfl (by rw [e_]; decide) (by rw [e_]; decide) (by rw [e_]; rfl) (by decide) ?_
          exact w_c_crack L false h i 1 45225 hI h0 hi hL (fun h1 hI1 e1 => w_st L false h1 i 1 45225 h0 hi hL (fun i' e' => ih i' h1 (by omega) hI1 (e1.ft hz) (by omega)))
        · have n0_ : ¬ (h 0 i.toNatClampNeg &&& 63) = 0 := by rw [e_]; decide
          have n1_ : ¬ (h 0 i.toNatClampNeg &&& 63) = 1 := by rw [e_]; decide
          have n2_ : ¬ (h 0 i.toNatClampNeg &&& 63) = 2 := by rw [e_]; decide
          have n3_ : ¬ (h 0 i.toNatClampNeg &&& 63) = 3 := by rw [e_]; decide
          have n4_ : ¬ (h 0 i.toNatClampNeg &&& 63) = 4 := by rw [e_]; decide
          have n5_ : ¬ (h 0 i.toNatClampNeg &&& 63) = 5 := by rw [e_]; decide
          have n6_ : ¬ (h 0 i.toNatClampNeg &&& 63) = 6 := by rw [e_]; decide
          have n7_ : ¬ (h 0 i.toNatClampNeg &&& 63) = 7 := by rw [e_]; decide
          have n8_ : ¬ (h 0 i.toNatClampNeg &&& 63) = 8 := by rw [e_]; decide
          have n9_ : ¬ (h 0 i.toNatClampNeg &&& 63) = 9 := by rw [e_]; decide
          refine ev_tabIn 498 rfl (by rw [e_]; decide) (by rw [e_]; decide) (by rw [e_]; rfl) (by decide) ?_
          exact w_c_leak L false h i 1 45225 hI h0 hi hL (fun h1 hI1 e1 => w_st L false h1 i 1 45225 h0 hi hL (fun i' e' => ih i' h1 (by omega) hI1 (e1.ft hz) (by omega)))
        · have n0_ : ¬ (h 0 i.toNatClampNeg &&& 63) = 0 := by rw [e_]; decide
          have n1_ : ¬ (h 0 i.toNatClampNeg &&& 63) = 1 := by rw [e_]; decide
          have n2_ : ¬ (h 0 i.toNatClampNeg &&& 63) = 2 := by rw [e_]; decide
          have n3_ : ¬ (h 0 i.toNatClampNeg &&& 63) = 3 := by rw [e_]; decide
          have n4_ : ¬ (h 0 i.toNatClampNeg &&& 63) = 4 := by rw [e_]; decide
          have n5_ : ¬ (h 0 i.toNatClampNeg &&& 63) = 5 := by rw [e_]; decide
          have n6_ : ¬ (h 0 i.toNatClampNeg &&& 63) = 6 := by rw [e_]; decide
          have n7_ : ¬ (h 0 i.toNatClampNeg &&& 63) = 7 := by rw [e_]; decide
          have n8_ : ¬ (h 0 i.toNatClampNeg &&& 63) = 8 := by rw [e_]; decide
          have n9_ : ¬ (h 0 i.toNatClampNeg &&& 63) = 9 := by rw [e_]; decide
          have n10_ : ¬ (h 0 i.toNatClampNeg &&& 63) = 10 := by rw [e_]; decide
          refine ev_tabIn 547 rfl (by rw [e_]; decide) (by rw [e_]; decide) (by rw [e_]; rfl) (by decide) ?_
          exact w_c_pitch L false h i 1 45225 hI h0 hi hL (fun h1 hI1 e1 => w_st L false h1 i 1 45225 h0 hi hL (fun i' e' => ih i' h1 (by omega) hI1 (e1.ft hz) (by omega)))
        · have n0_ : ¬ (h 0 i.toNatClampNeg &&& 63) = 0 := by rw [e_]; decide
          have n1_ : ¬ (h 0 i.toNatClampNeg &&& 63) = 1 := by rw [e_]; decide
          have n2_ : ¬ (h 0 i.toNatClampNeg &&& 63) = 2 := by rw [e_]; decide
          have n3_ : ¬ (h 0 i.toNatClampNeg &&& 63) = 3 := by rw [e_]; decide
          have n4_ : ¬ (h 0 i.toNatClampNeg &&& 63) = 4 := by rw [e_]; decide
          have n5_ : ¬ (h 0 i.toNatClampNeg &&& 63) = 5 := by rw [e_]; decide
          have n6_ : ¬ (h 0 i.toNatClampNeg &&& 63) = 6 := by rw [e_]; decide
          have n7_ : ¬ (h 0 i.toNatClampNeg &&& 63) = 7 := by rw [e_]; decide
          have n8_ : ¬ (h 0 i.toNatClampNeg &&& 63) = 8 := by rw [e_]; decide
          have n9_ : ¬ (h 0 i.toNatClampNeg &&& 63) = 9 := by rw [e_]; decide
          have n10_ : ¬ (h 0 i.toNatClampNeg &&& 63) = 10 := by rw [e_]; decide
          have n11_ : ¬ (h 0 i.toNatClampNeg &&& 63) = 11 := by rw [e_]; decide
          refine ev_tabIn 580 rfl (by rw [e_]; decide) (by rw [e_]; decide) (by rw [e_]; rfl) (by decide) ?_
          exact w_c_holds L false h i 1 45225 hI h0 hi hL (fun h1 hI1 e1 => w_st L false h1 i 1 45225 h0 hi hL (fun i' e' => ih i' h1 (by omega) hI1 (e1.ft hz) (by omega)))
        · have n0_ : ¬ (h 0 i.toNatClampNeg &&& 63) = 0 := by rw [e_]; decide
          have n1_ : ¬ (h 0 i.toNatClampNeg &&& 63) = 1 := by rw [e_]; decide
          have n2_ : ¬ (h 0 i.toNatClampNeg &&& 63) = 2 := by rw [e_]; decide
          have n3_ : ¬ (h 0 i.toNatClampNeg &&& 63) = 3 := by rw [e_]; decide
          have n4_ : ¬ (h 0 i.toNatClampNeg &&& 63) = 4 := by rw [e_]; decide
          have n5_ : ¬ (h 0 i.toNatClampNeg &&& 63) = 5 := by rw [e_]; decide
          have n6_ : ¬ (h 0 i.toNatClampNeg &&& 63) = 6 := by rw [e_]; decide
          have n7_ : ¬ (h 0 i.toNatClampNeg &&& 63) = 7 := by rw [e_]; decide
          have n8_ : ¬ (h 0 i.toNatClampNeg &&& 63) = 8 := by rw [e_]; decide
          have n9_ : ¬ (h 0 i.toNatClampNeg &&& 63) = 9 := by rw [e_]; decide
          have n10_ : ¬ (h 0 i.toNatClampNeg &&& 63) = 10 := by rw [e_]; decide
          have n11_ : ¬ (h 0 i.toNatClampNeg &&& 63) = 11 := by rw [e_]; decide
          have n12_ : ¬ (h 0 i.toNatClampNeg &&& 63) = 12 := by rw [e_]; decide
          refine ev_tabIn 613 rfl (by rw [e_]; decide) (by rw [e_]; decide) (by rw [e_]; rfl) (by decide) ?_
          exact w_c_tuneAll L false h i 1 45225 hI h0 hi hL (fun h1 hI1 e1 => w_st L false h1 i 1 45225 h0 hi hL (fun i' e' => ih i' h1 (by omega) hI1 (e1.ft hz) (by omega)))
        · have n0_ : ¬ (h 0 i.toNatClampNeg &&& 63) = 0 := by rw [e_]; decide
          have n1_ : ¬ (h 0 i.toNatClampNeg &&& 63) = 1 := by rw [e_]; decide
          have n2_ : ¬ (h 0 i.toNatClampNeg &&& 63) = 2 := by rw [e_]; decide
          have n3_ : ¬ (h 0 i.toNatClampNeg &&& 63) = 3 := by rw [e_]; decide
          have n4_ : ¬ (h 0 i.toNatClampNeg &&& 63) = 4 := by rw [e_]; decide
          have n5_ : ¬ (h 0 i.toNatClampNeg &&& 63) = 5 := by rw [e_]; decide
          have n6_ : ¬ (h 0 i.toNatClampNeg &&& 63) = 6 := by rw [e_]; decide
          have n7_ : ¬ (h 0 i.toNatClampNeg &&& 63) = 7 := by rw [e_]; decide
          have n8_ : ¬ (h 0 i.toNatClampNeg &&& 63) = 8 := by rw [e_]; decide
          have n9_ : ¬ (h 0 i.toNatClampNeg &&& 63) = 9 := by rw [e_]; decide
          have n10_ : ¬ (h 0 i.toNatClampNeg &&& 63) = 10 := by rw [e_]; decide
          have n11_ : ¬ (h 0 i.toNatClampNeg &&& 63) = 11 := by rw [e_]; decide
          have n12_ : ¬ (h 0 i.toNatClampNeg &&& 63) = 12 := by rw [e_]; decide
          have n13_ : ¬ (h 0 i.toNatClampNeg &&& 63) = 13 := by rw [e_]; decide
          refine ev_tabIn 636 rfl (by rw [e_]; decide) (by rw [e_]; decide) (by rw [e_]; rfl) (by decide) ?_
          exact w_c_agree L false h i 1 45225 hI h0 hi hL (fun h1 hI1 e1 => w_st L false h1 i 1 45225 h0 hi hL (fun i' e' => ih i' h1 (by omega) hI1 (e1.ft hz) (by omega)))
        · have n0_ : ¬ (h 0 i.toNatClampNeg &&& 63) = 0 := by rw [e_]; decide
          have n1_ : ¬ (h 0 i.toNatClampNeg &&& 63) = 1 := by rw [e_]; decide
          have n2_ : ¬ (h 0 i.toNatClampNeg &&& 63) = 2 := by rw [e_]; decide
          have n3_ : ¬ (h 0 i.toNatClampNeg &&& 63) = 3 := by rw [e_]; decide
          have n4_ : ¬ (h 0 i.toNatClampNeg &&& 63) = 4 := by rw [e_]; decide
          have n5_ : ¬ (h 0 i.toNatClampNeg &&& 63) = 5 := by rw [e_]; decide
          have n6_ : ¬ (h 0 i.toNatClampNeg &&& 63) = 6 := by rw [e_]; decide
          have n7_ : ¬ (h 0 i.toNatClampNeg &&& 63) = 7 := by rw [e_]; decide
          have n8_ : ¬ (h 0 i.toNatClampNeg &&& 63) = 8 := by rw [e_]; decide
          have n9_ : ¬ (h 0 i.toNatClampNeg &&& 63) = 9 := by rw [e_]; decide
          have n10_ : ¬ (h 0 i.toNatClampNeg &&& 63) = 10 := by rw [e_]; decide
          have n11_ : ¬ (h 0 i.toNatClampNeg &&& 63) = 11 := by rw [e_]; decide
          have n12_ : ¬ (h 0 i.toNatClampNeg &&& 63) = 12 := by rw [e_]; decide
          have n13_ : ¬ (h 0 i.toNatClampNeg &&& 63) = 13 := by rw [e_]; decide
          have n14_ : ¬ (h 0 i.toNatClampNeg &&& 63) = 14 := by rw [e_]; decide
          refine ev_tabIn 659 rfl (by rw [e_]; decide) (by rw [e_]; decide) (by rw [e_]; rfl) (by decide) ?_
          exact w_c_feed L false h i 1 45225 hI h0 hi hL (fun h1 hI1 e1 => w_st L false h1 i 1 45225 h0 hi hL (fun i' e' => ih i' h1 (by omega) hI1 (e1.ft hz) (by omega)))
        · have n0_ : ¬ (h 0 i.toNatClampNeg &&& 63) = 0 := by rw [e_]; decide
          have n1_ : ¬ (h 0 i.toNatClampNeg &&& 63) = 1 := by rw [e_]; decide
          have n2_ : ¬ (h 0 i.toNatClampNeg &&& 63) = 2 := by rw [e_]; decide
          have n3_ : ¬ (h 0 i.toNatClampNeg &&& 63) = 3 := by rw [e_]; decide
          have n4_ : ¬ (h 0 i.toNatClampNeg &&& 63) = 4 := by rw [e_]; decide
          have n5_ : ¬ (h 0 i.toNatClampNeg &&& 63) = 5 := by rw [e_]; decide
          have n6_ : ¬ (h 0 i.toNatClampNeg &&& 63) = 6 := by rw [e_]; decide
          have n7_ : ¬ (h 0 i.toNatClampNeg &&& 63) = 7 := by rw [e_]; decide
          have n8_ : ¬ (h 0 i.toNatClampNeg &&& 63) = 8 := by rw [e_]; decide
          have n9_ : ¬ (h 0 i.toNatClampNeg &&& 63) = 9 := by rw [e_]; decide
          have n10_ : ¬ (h 0 i.toNatClampNeg &&& 63) = 10 := by rw [e_]; decide
          have n11_ : ¬ (h 0 i.toNatClampNeg &&& 63) = 11 := by rw [e_]; decide
          have n12_ : ¬ (h 0 i.toNatClampNeg &&& 63) = 12 := by rw [e_]; decide
          have n13_ : ¬ (h 0 i.toNatClampNeg &&& 63) = 13 := by rw [e_]; decide
          have n14_ : ¬ (h 0 i.toNatClampNeg &&& 63) = 14 := by rw [e_]; decide
          have n15_ : ¬ (h 0 i.toNatClampNeg &&& 63) = 15 := by rw [e_]; decide
          refine ev_tabIn 712 rfl (by rw [e_]; decide) (by rw [e_]; decide) (by rw [e_]; rfl) (by decide) ?_
          exact w_c_end L false h i 1 45225 hI h0 hi hL (fun h1 hI1 e1 => w_st L false h1 i 1 45225 h0 hi hL (fun i' e' => ih i' h1 (by omega) hI1 (e1.ft hz) (by omega)))
        · have n0_ : ¬ (h 0 i.toNatClampNeg &&& 63) = 0 := by rw [e_]; decide
          have n1_ : ¬ (h 0 i.toNatClampNeg &&& 63) = 1 := by rw [e_]; decide
          have n2_ : ¬ (h 0 i.toNatClampNeg &&& 63) = 2 := by rw [e_]; decide
          have n3_ : ¬ (h 0 i.toNatClampNeg &&& 63) = 3 := by rw [e_]; decide
          have n4_ : ¬ (h 0 i.toNatClampNeg &&& 63) = 4 := by rw [e_]; decide
          have n5_ : ¬ (h 0 i.toNatClampNeg &&& 63) = 5 := by rw [e_]; decide
          have n6_ : ¬ (h 0 i.toNatClampNeg &&& 63) = 6 := by rw [e_]; decide
          have n7_ : ¬ (h 0 i.toNatClampNeg &&& 63) = 7 := by rw [e_]; decide
          have n8_ : ¬ (h 0 i.toNatClampNeg &&& 63) = 8 := by rw [e_]; decide
          have n9_ : ¬ (h 0 i.toNatClampNeg &&& 63) = 9 := by rw [e_]; decide
          have n10_ : ¬ (h 0 i.toNatClampNeg &&& 63) = 10 := by rw [e_]; decide
          have n11_ : ¬ (h 0 i.toNatClampNeg &&& 63) = 11 := by rw [e_]; decide
          have n12_ : ¬ (h 0 i.toNatClampNeg &&& 63) = 12 := by rw [e_]; decide
          have n13_ : ¬ (h 0 i.toNatClampNeg &&& 63) = 13 := by rw [e_]; decide
          have n14_ : ¬ (h 0 i.toNatClampNeg &&& 63) = 14 := by rw [e_]; decide
          have n15_ : ¬ (h 0 i.toNatClampNeg &&& 63) = 15 := by rw [e_]; decide
          have n16_ : ¬ (h 0 i.toNatClampNeg &&& 63) = 16 := by rw [e_]; decide
          refine ev_tabIn 735 rfl (by rw [e_]; decide) (by rw [e_]; decide) (by rw [e_]; rfl) (by decide) ?_
          exact w_c_tune L false h i 1 45225 hI h0 hi hL (fun h1 hI1 e1 => w_st L false h1 i 1 45225 h0 hi hL (fun i' e' => ih i' h1 (by omega) hI1 (e1.ft hz) (by omega)))
        · have n0_ : ¬ (h 0 i.toNatClampNeg &&& 63) = 0 := by rw [e_]; decide
          have n1_ : ¬ (h 0 i.toNatClampNeg &&& 63) = 1 := by rw [e_]; decide
          have n2_ : ¬ (h 0 i.toNatClampNeg &&& 63) = 2 := by rw [e_]; decide
          have n3_ : ¬ (h 0 i.toNatClampNeg &&& 63) = 3 := by rw [e_]; decide
          have n4_ : ¬ (h 0 i.toNatClampNeg &&& 63) = 4 := by rw [e_]; decide
          have n5_ : ¬ (h 0 i.toNatClampNeg &&& 63) = 5 := by rw [e_]; decide
          have n6_ : ¬ (h 0 i.toNatClampNeg &&& 63) = 6 := by rw [e_]; decide
          have n7_ : ¬ (h 0 i.toNatClampNeg &&& 63) = 7 := by rw [e_]; decide
          have n8_ : ¬ (h 0 i.toNatClampNeg &&& 63) = 8 := by rw [e_]; decide
          have n9_ : ¬ (h 0 i.toNatClampNeg &&& 63) = 9 := by rw [e_]; decide
          have n10_ : ¬ (h 0 i.toNatClampNeg &&& 63) = 10 := by rw [e_]; decide
          have n11_ : ¬ (h 0 i.toNatClampNeg &&& 63) = 11 := by rw [e_]; decide
          have n12_ : ¬ (h 0 i.toNatClampNeg &&& 63) = 12 := by rw [e_]; decide
          have n13_ : ¬ (h 0 i.toNatClampNeg &&& 63) = 13 := by rw [e_]; decide
          have n14_ : ¬ (h 0 i.toNatClampNeg &&& 63) = 14 := by rw [e_]; decide
          have n15_ : ¬ (h 0 i.toNatClampNeg &&& 63) = 15 := by rw [e_]; decide
          have n16_ : ¬ (h 0 i.toNatClampNeg &&& 63) = 16 := by rw [e_]; decide
          have n17_ : ¬ (h 0 i.toNatClampNeg &&& 63) = 17 := by rw [e_]; decide
          refine ev_tabIn 748 rfl (by rw [e_]; decide) (by rw [e_]; decide) (by rw [e_]; rfl) (by decide) ?_
          exact w_c_fault L false h i 1 45225 hI h0 hi hL (fun h1 hI1 e1 => w_st L false h1 i 1 45225 h0 hi hL (fun i' e' => ih i' h1 (by omega) hI1 (e1.ft hz) (by omega)))
        · have n0_ : ¬ (h 0 i.toNatClampNeg &&& 63) = 0 := by rw [e_]; decide
          have n1_ : ¬ (h 0 i.toNatClampNeg &&& 63) = 1 := by rw [e_]; decide
          have n2_ : ¬ (h 0 i.toNatClampNeg &&& 63) = 2 := by rw [e_]; decide
          have n3_ : ¬ (h 0 i.toNatClampNeg &&& 63) = 3 := by rw [e_]; decide
          have n4_ : ¬ (h 0 i.toNatClampNeg &&& 63) = 4 := by rw [e_]; decide
          have n5_ : ¬ (h 0 i.toNatClampNeg &&& 63) = 5 := by rw [e_]; decide
          have n6_ : ¬ (h 0 i.toNatClampNeg &&& 63) = 6 := by rw [e_]; decide
          have n7_ : ¬ (h 0 i.toNatClampNeg &&& 63) = 7 := by rw [e_]; decide
          have n8_ : ¬ (h 0 i.toNatClampNeg &&& 63) = 8 := by rw [e_]; decide
          have n9_ : ¬ (h 0 i.toNatClampNeg &&& 63) = 9 := by rw [e_]; decide
          have n10_ : ¬ (h 0 i.toNatClampNeg &&& 63) = 10 := by rw [e_]; decide
          have n11_ : ¬ (h 0 i.toNatClampNeg &&& 63) = 11 := by rw [e_]; decide
          have n12_ : ¬ (h 0 i.toNatClampNeg &&& 63) = 12 := by rw [e_]; decide
          have n13_ : ¬ (h 0 i.toNatClampNeg &&& 63) = 13 := by rw [e_]; decide
          have n14_ : ¬ (h 0 i.toNatClampNeg &&& 63) = 14 := by rw [e_]; decide
          have n15_ : ¬ (h 0 i.toNatClampNeg &&& 63) = 15 := by rw [e_]; decide
          have n16_ : ¬ (h 0 i.toNatClampNeg &&& 63) = 16 := by rw [e_]; decide
          have n17_ : ¬ (h 0 i.toNatClampNeg &&& 63) = 17 := by rw [e_]; decide
          have n18_ : ¬ (h 0 i.toNatClampNeg &&& 63) = 18 := by rw [e_]; decide
          refine ev_tabIn 761 rfl (by rw [e_]; decide) (by rw [e_]; decide) (by rw [e_]; rfl) (by decide) ?_
          exact w_c_tuneOf L false h i 1 45225 hI h0 hi hL (fun h1 hI1 e1 => w_st L false h1 i 1 45225 h0 hi hL (fun i' e' => ih i' h1 (by omega) hI1 (e1.ft hz) (by omega)))
        · have n0_ : ¬ (h 0 i.toNatClampNeg &&& 63) = 0 := by rw [e_]; decide
          have n1_ : ¬ (h 0 i.toNatClampNeg &&& 63) = 1 := by rw [e_]; decide
          have n2_ : ¬ (h 0 i.toNatClampNeg &&& 63) = 2 := by rw [e_]; decide
          have n3_ : ¬ (h 0 i.toNatClampNeg &&& 63) = 3 := by rw [e_]; decide
          have n4_ : ¬ (h 0 i.toNatClampNeg &&& 63) = 4 := by rw [e_]; decide
          have n5_ : ¬ (h 0 i.toNatClampNeg &&& 63) = 5 := by rw [e_]; decide
          have n6_ : ¬ (h 0 i.toNatClampNeg &&& 63) = 6 := by rw [e_]; decide
          have n7_ : ¬ (h 0 i.toNatClampNeg &&& 63) = 7 := by rw [e_]; decide
          have n8_ : ¬ (h 0 i.toNatClampNeg &&& 63) = 8 := by rw [e_]; decide
          have n9_ : ¬ (h 0 i.toNatClampNeg &&& 63) = 9 := by rw [e_]; decide
          have n10_ : ¬ (h 0 i.toNatClampNeg &&& 63) = 10 := by rw [e_]; decide
          have n11_ : ¬ (h 0 i.toNatClampNeg &&& 63) = 11 := by rw [e_]; decide
          have n12_ : ¬ (h 0 i.toNatClampNeg &&& 63) = 12 := by rw [e_]; decide
          have n13_ : ¬ (h 0 i.toNatClampNeg &&& 63) = 13 := by rw [e_]; decide
          have n14_ : ¬ (h 0 i.toNatClampNeg &&& 63) = 14 := by rw [e_]; decide
          have n15_ : ¬ (h 0 i.toNatClampNeg &&& 63) = 15 := by rw [e_]; decide
          have n16_ : ¬ (h 0 i.toNatClampNeg &&& 63) = 16 := by rw [e_]; decide
          have n17_ : ¬ (h 0 i.toNatClampNeg &&& 63) = 17 := by rw [e_]; decide
          have n18_ : ¬ (h 0 i.toNatClampNeg &&& 63) = 18 := by rw [e_]; decide
          have n19_ : ¬ (h 0 i.toNatClampNeg &&& 63) = 19 := by rw [e_]; decide
          refine ev_tabIn 794 rfl (by rw [e_]; decide) (by rw [e_]; decide) (by rw [e_]; rfl) (by decide) ?_
          exact w_c_play L false h i 1 45225 hI h0 hi hL (fun h1 hI1 e1 => w_st L false h1 i 1 45225 h0 hi hL (fun i' e' => ih i' h1 (by omega) hI1 (e1.ft hz) (by omega)))
        · have n0_ : ¬ (h 0 i.toNatClampNeg &&& 63) = 0 := by rw [e_]; decide
          have n1_ : ¬ (h 0 i.toNatClampNeg &&& 63) = 1 := by rw [e_]; decide
          have n2_ : ¬ (h 0 i.toNatClampNeg &&& 63) = 2 := by rw [e_]; decide
          have n3_ : ¬ (h 0 i.toNatClampNeg &&& 63) = 3 := by rw [e_]; decide
          have n4_ : ¬ (h 0 i.toNatClampNeg &&& 63) = 4 := by rw [e_]; decide
          have n5_ : ¬ (h 0 i.toNatClampNeg &&& 63) = 5 := by rw [e_]; decide
          have n6_ : ¬ (h 0 i.toNatClampNeg &&& 63) = 6 := by rw [e_]; decide
          have n7_ : ¬ (h 0 i.toNatClampNeg &&& 63) = 7 := by rw [e_]; decide
          have n8_ : ¬ (h 0 i.toNatClampNeg &&& 63) = 8 := by rw [e_]; decide
          have n9_ : ¬ (h 0 i.toNatClampNeg &&& 63) = 9 := by rw [e_]; decide
          have n10_ : ¬ (h 0 i.toNatClampNeg &&& 63) = 10 := by rw [e_]; decide
          have n11_ : ¬ (h 0 i.toNatClampNeg &&& 63) = 11 := by rw [e_]; decide
          have n12_ : ¬ (h 0 i.toNatClampNeg &&& 63) = 12 := by rw [e_]; decide
          have n13_ : ¬ (h 0 i.toNatClampNeg &&& 63) = 13 := by rw [e_]; decide
          have n14_ : ¬ (h 0 i.toNatClampNeg &&& 63) = 14 := by rw [e_]; decide
          have n15_ : ¬ (h 0 i.toNatClampNeg &&& 63) = 15 := by rw [e_]; decide
          have n16_ : ¬ (h 0 i.toNatClampNeg &&& 63) = 16 := by rw [e_]; decide
          have n17_ : ¬ (h 0 i.toNatClampNeg &&& 63) = 17 := by rw [e_]; decide
          have n18_ : ¬ (h 0 i.toNatClampNeg &&& 63) = 18 := by rw [e_]; decide
          have n19_ : ¬ (h 0 i.toNatClampNeg &&& 63) = 19 := by rw [e_]; decide
          have n20_ : ¬ (h 0 i.toNatClampNeg &&& 63) = 20 := by rw [e_]; decide
          refine ev_tabIn 827 rfl (by rw [e_]; decide) (by rw [e_]; decide) (by rw [e_]; rfl) (by decide) ?_
          exact w_c_would L false h i 1 45225 hI h0 hi hL (fun h1 hI1 e1 => w_st L false h1 i 1 45225 h0 hi hL (fun i' e' => ih i' h1 (by omega) hI1 (e1.ft hz) (by omega)))
        · have n0_ : ¬ (h 0 i.toNatClampNeg &&& 63) = 0 := by rw [e_]; decide
          have n1_ : ¬ (h 0 i.toNatClampNeg &&& 63) = 1 := by rw [e_]; decide
          have n2_ : ¬ (h 0 i.toNatClampNeg &&& 63) = 2 := by rw [e_]; decide
          have n3_ : ¬ (h 0 i.toNatClampNeg &&& 63) = 3 := by rw [e_]; decide
          have n4_ : ¬ (h 0 i.toNatClampNeg &&& 63) = 4 := by rw [e_]; decide
          have n5_ : ¬ (h 0 i.toNatClampNeg &&& 63) = 5 := by rw [e_]; decide
          have n6_ : ¬ (h 0 i.toNatClampNeg &&& 63) = 6 := by rw [e_]; decide
          have n7_ : ¬ (h 0 i.toNatClampNeg &&& 63) = 7 := by rw [e_]; decide
          have n8_ : ¬ (h 0 i.toNatClampNeg &&& 63) = 8 := by rw [e_]; decide
          have n9_ : ¬ (h 0 i.toNatClampNeg &&& 63) = 9 := by rw [e_]; decide
          have n10_ : ¬ (h 0 i.toNatClampNeg &&& 63) = 10 := by rw [e_]; decide
          have n11_ : ¬ (h 0 i.toNatClampNeg &&& 63) = 11 := by rw [e_]; decide
          have n12_ : ¬ (h 0 i.toNatClampNeg &&& 63) = 12 := by rw [e_]; decide
          have n13_ : ¬ (h 0 i.toNatClampNeg &&& 63) = 13 := by rw [e_]; decide
          have n14_ : ¬ (h 0 i.toNatClampNeg &&& 63) = 14 := by rw [e_]; decide
          have n15_ : ¬ (h 0 i.toNatClampNeg &&& 63) = 15 := by rw [e_]; decide
          have n16_ : ¬ (h 0 i.toNatClampNeg &&& 63) = 16 := by rw [e_]; decide
          have n17_ : ¬ (h 0 i.toNatClampNeg &&& 63) = 17 := by rw [e_]; decide
          have n18_ : ¬ (h 0 i.toNatClampNeg &&& 63) = 18 := by rw [e_]; decide
          have n19_ : ¬ (h 0 i.toNatClampNeg &&& 63) = 19 := by rw [e_]; decide
          have n20_ : ¬ (h 0 i.toNatClampNeg &&& 63) = 20 := by rw [e_]; decide
          have n21_ : ¬ (h 0 i.toNatClampNeg &&& 63) = 21 := by rw [e_]; decide
          refine ev_tabIn 860 rfl (by rw [e_]; decide) (by rw [e_]; decide) (by rw [e_]; rfl) (by decide) ?_
          exact w_c_key L false h i 1 45225 hI h0 hi hL (fun h1 hI1 e1 => w_st L false h1 i 1 45225 h0 hi hL (fun i' e' => ih i' h1 (by omega) hI1 (e1.ft hz) (by omega)))
        · have n0_ : ¬ (h 0 i.toNatClampNeg &&& 63) = 0 := by rw [e_]; decide
          have n1_ : ¬ (h 0 i.toNatClampNeg &&& 63) = 1 := by rw [e_]; decide
          have n2_ : ¬ (h 0 i.toNatClampNeg &&& 63) = 2 := by rw [e_]; decide
          have n3_ : ¬ (h 0 i.toNatClampNeg &&& 63) = 3 := by rw [e_]; decide
          have n4_ : ¬ (h 0 i.toNatClampNeg &&& 63) = 4 := by rw [e_]; decide
          have n5_ : ¬ (h 0 i.toNatClampNeg &&& 63) = 5 := by rw [e_]; decide
          have n6_ : ¬ (h 0 i.toNatClampNeg &&& 63) = 6 := by rw [e_]; decide
          have n7_ : ¬ (h 0 i.toNatClampNeg &&& 63) = 7 := by rw [e_]; decide
          have n8_ : ¬ (h 0 i.toNatClampNeg &&& 63) = 8 := by rw [e_]; decide
          have n9_ : ¬ (h 0 i.toNatClampNeg &&& 63) = 9 := by rw [e_]; decide
          have n10_ : ¬ (h 0 i.toNatClampNeg &&& 63) = 10 := by rw [e_]; decide
          have n11_ : ¬ (h 0 i.toNatClampNeg &&& 63) = 11 := by rw [e_]; decide
          have n12_ : ¬ (h 0 i.toNatClampNeg &&& 63) = 12 := by rw [e_]; decide
          have n13_ : ¬ (h 0 i.toNatClampNeg &&& 63) = 13 := by rw [e_]; decide
          have n14_ : ¬ (h 0 i.toNatClampNeg &&& 63) = 14 := by rw [e_]; decide
          have n15_ : ¬ (h 0 i.toNatClampNeg &&& 63) = 15 := by rw [e_]; decide
          have n16_ : ¬ (h 0 i.toNatClampNeg &&& 63) = 16 := by rw [e_]; decide
          have n17_ : ¬ (h 0 i.toNatClampNeg &&& 63) = 17 := by rw [e_]; decide
          have n18_ : ¬ (h 0 i.toNatClampNeg &&& 63) = 18 := by rw [e_]; decide
          have n19_ : ¬ (h 0 i.toNatClampNeg &&& 63) = 19 := by rw [e_]; decide
          have n20_ : ¬ (h 0 i.toNatClampNeg &&& 63) = 20 := by rw [e_]; decide
          have n21_ : ¬ (h 0 i.toNatClampNeg &&& 63) = 21 := by rw [e_]; decide
          have n22_ : ¬ (h 0 i.toNatClampNeg &&& 63) = 22 := by rw [e_]; decide
          refine ev_tabIn 893 rfl (by rw [e_]; decide) (by rw [e_]; decide) (by rw [e_]; rfl) (by decide) ?_
          exact w_c_setF L h i hI hz h0 hi hL (fun h1 hI1 e1 => w_st L false h1 i 1 45225 h0 hi hL (fun i' e' => ih i' h1 (by omega) hI1 (e1.ft hz) (by omega))) (fun h1 hI1 => w_st L true h1 i 0 0 h0 hi hL (fun i' e' => w_loopT L hL n i' h1 (by omega) hI1 (by omega)))
        · have n0_ : ¬ (h 0 i.toNatClampNeg &&& 63) = 0 := by rw [e_]; decide
          have n1_ : ¬ (h 0 i.toNatClampNeg &&& 63) = 1 := by rw [e_]; decide
          have n2_ : ¬ (h 0 i.toNatClampNeg &&& 63) = 2 := by rw [e_]; decide
          have n3_ : ¬ (h 0 i.toNatClampNeg &&& 63) = 3 := by rw [e_]; decide
          have n4_ : ¬ (h 0 i.toNatClampNeg &&& 63) = 4 := by rw [e_]; decide
          have n5_ : ¬ (h 0 i.toNatClampNeg &&& 63) = 5 := by rw [e_]; decide
          have n6_ : ¬ (h 0 i.toNatClampNeg &&& 63) = 6 := by rw [e_]; decide
          have n7_ : ¬ (h 0 i.toNatClampNeg &&& 63) = 7 := by rw [e_]; decide
          have n8_ : ¬ (h 0 i.toNatClampNeg &&& 63) = 8 := by rw [e_]; decide
          have n9_ : ¬ (h 0 i.toNatClampNeg &&& 63) = 9 := by rw [e_]; decide
          have n10_ : ¬ (h 0 i.toNatClampNeg &&& 63) = 10 := by rw [e_]; decide
          have n11_ : ¬ (h 0 i.toNatClampNeg &&& 63) = 11 := by rw [e_]; decide
          have n12_ : ¬ (h 0 i.toNatClampNeg &&& 63) = 12 := by rw [e_]; decide
          have n13_ : ¬ (h 0 i.toNatClampNeg &&& 63) = 13 := by rw [e_]; decide
          have n14_ : ¬ (h 0 i.toNatClampNeg &&& 63) = 14 := by rw [e_]; decide
          have n15_ : ¬ (h 0 i.toNatClampNeg &&& 63) = 15 := by rw [e_]; decide
          have n16_ : ¬ (h 0 i.toNatClampNeg &&& 63) = 16 := by rw [e_]; decide
          have n17_ : ¬ (h 0 i.toNatClampNeg &&& 63) = 17 := by rw [e_]; decide
          have n18_ : ¬ (h 0 i.toNatClampNeg &&& 63) = 18 := by rw [e_]; decide
          have n19_ : ¬ (h 0 i.toNatClampNeg &&& 63) = 19 := by rw [e_]; decide
          have n20_ : ¬ (h 0 i.toNatClampNeg &&& 63) = 20 := by rw [e_]; decide
          have n21_ : ¬ (h 0 i.toNatClampNeg &&& 63) = 21 := by rw [e_]; decide
          have n22_ : ¬ (h 0 i.toNatClampNeg &&& 63) = 22 := by rw [e_]; decide
          have n23_ : ¬ (h 0 i.toNatClampNeg &&& 63) = 23 := by rw [e_]; decide
          refine ev_tabIn 956 rfl (by rw [e_]; decide) (by rw [e_]; decide) (by rw [e_]; rfl) (by decide) ?_
          exact w_c_blame L false h i 1 45225 hI h0 hi hL (fun h1 hI1 e1 => w_st L false h1 i 1 45225 h0 hi hL (fun i' e' => ih i' h1 (by omega) hI1 (e1.ft hz) (by omega)))
        · have n0_ : ¬ (h 0 i.toNatClampNeg &&& 63) = 0 := by rw [e_]; decide
          have n1_ : ¬ (h 0 i.toNatClampNeg &&& 63) = 1 := by rw [e_]; decide
          have n2_ : ¬ (h 0 i.toNatClampNeg &&& 63) = 2 := by rw [e_]; decide
          have n3_ : ¬ (h 0 i.toNatClampNeg &&& 63) = 3 := by rw [e_]; decide
          have n4_ : ¬ (h 0 i.toNatClampNeg &&& 63) = 4 := by rw [e_]; decide
          have n5_ : ¬ (h 0 i.toNatClampNeg &&& 63) = 5 := by rw [e_]; decide
          have n6_ : ¬ (h 0 i.toNatClampNeg &&& 63) = 6 := by rw [e_]; decide
          have n7_ : ¬ (h 0 i.toNatClampNeg &&& 63) = 7 := by rw [e_]; decide
          have n8_ : ¬ (h 0 i.toNatClampNeg &&& 63) = 8 := by rw [e_]; decide
          have n9_ : ¬ (h 0 i.toNatClampNeg &&& 63) = 9 := by rw [e_]; decide
          have n10_ : ¬ (h 0 i.toNatClampNeg &&& 63) = 10 := by rw [e_]; decide
          have n11_ : ¬ (h 0 i.toNatClampNeg &&& 63) = 11 := by rw [e_]; decide
          have n12_ : ¬ (h 0 i.toNatClampNeg &&& 63) = 12 := by rw [e_]; decide
          have n13_ : ¬ (h 0 i.toNatClampNeg &&& 63) = 13 := by rw [e_]; decide
          have n14_ : ¬ (h 0 i.toNatClampNeg &&& 63) = 14 := by rw [e_]; decide
          have n15_ : ¬ (h 0 i.toNatClampNeg &&& 63) = 15 := by rw [e_]; decide
          have n16_ : ¬ (h 0 i.toNatClampNeg &&& 63) = 16 := by rw [e_]; decide
          have n17_ : ¬ (h 0 i.toNatClampNeg &&& 63) = 17 := by rw [e_]; decide
          have n18_ : ¬ (h 0 i.toNatClampNeg &&& 63) = 18 := by rw [e_]; decide
          have n19_ : ¬ (h 0 i.toNatClampNeg &&& 63) = 19 := by rw [e_]; decide
          have n20_ : ¬ (h 0 i.toNatClampNeg &&& 63) = 20 := by rw [e_]; decide
          have n21_ : ¬ (h 0 i.toNatClampNeg &&& 63) = 21 := by rw [e_]; decide
          have n22_ : ¬ (h 0 i.toNatClampNeg &&& 63) = 22 := by rw [e_]; decide
          have n23_ : ¬ (h 0 i.toNatClampNeg &&& 63) = 23 := by rw [e_]; decide
          have n24_ : ¬ (h 0 i.toNatClampNeg &&& 63) = 24 := by rw [e_]; decide
          refine ev_tabIn 1043 rfl (by rw [e_]; decide) (by rw [e_]; decide) (by rw [e_]; rfl) (by decide) ?_
          exact w_c_boat L false h i 1 45225 hI h0 hi hL (fun h1 hI1 e1 => w_st L false h1 i 1 45225 h0 hi hL (fun i' e' => ih i' h1 (by omega) hI1 (e1.ft hz) (by omega)))
        · have n0_ : ¬ (h 0 i.toNatClampNeg &&& 63) = 0 := by rw [e_]; decide
          have n1_ : ¬ (h 0 i.toNatClampNeg &&& 63) = 1 := by rw [e_]; decide
          have n2_ : ¬ (h 0 i.toNatClampNeg &&& 63) = 2 := by rw [e_]; decide
          have n3_ : ¬ (h 0 i.toNatClampNeg &&& 63) = 3 := by rw [e_]; decide
          have n4_ : ¬ (h 0 i.toNatClampNeg &&& 63) = 4 := by rw [e_]; decide
          have n5_ : ¬ (h 0 i.toNatClampNeg &&& 63) = 5 := by rw [e_]; decide
          have n6_ : ¬ (h 0 i.toNatClampNeg &&& 63) = 6 := by rw [e_]; decide
          have n7_ : ¬ (h 0 i.toNatClampNeg &&& 63) = 7 := by rw [e_]; decide
          have n8_ : ¬ (h 0 i.toNatClampNeg &&& 63) = 8 := by rw [e_]; decide
          have n9_ : ¬ (h 0 i.toNatClampNeg &&& 63) = 9 := by rw [e_]; decide
          have n10_ : ¬ (h 0 i.toNatClampNeg &&& 63) = 10 := by rw [e_]; decide
          have n11_ : ¬ (h 0 i.toNatClampNeg &&& 63) = 11 := by rw [e_]; decide
          have n12_ : ¬ (h 0 i.toNatClampNeg &&& 63) = 12 := by rw [e_]; decide
          have n13_ : ¬ (h 0 i.toNatClampNeg &&& 63) = 13 := by rw [e_]; decide
          have n14_ : ¬ (h 0 i.toNatClampNeg &&& 63) = 14 := by rw [e_]; decide
          have n15_ : ¬ (h 0 i.toNatClampNeg &&& 63) = 15 := by rw [e_]; decide
          have n16_ : ¬ (h 0 i.toNatClampNeg &&& 63) = 16 := by rw [e_]; decide
          have n17_ : ¬ (h 0 i.toNatClampNeg &&& 63) = 17 := by rw [e_]; decide
          have n18_ : ¬ (h 0 i.toNatClampNeg &&& 63) = 18 := by rw [e_]; decide
          have n19_ : ¬ (h 0 i.toNatClampNeg &&& 63) = 19 := by rw [e_]; decide
          have n20_ : ¬ (h 0 i.toNatClampNeg &&& 63) = 20 := by rw [e_]; decide
          have n21_ : ¬ (h 0 i.toNatClampNeg &&& 63) = 21 := by rw [e_]; decide
          have n22_ : ¬ (h 0 i.toNatClampNeg &&& 63) = 22 := by rw [e_]; decide
          have n23_ : ¬ (h 0 i.toNatClampNeg &&& 63) = 23 := by rw [e_]; decide
          have n24_ : ¬ (h 0 i.toNatClampNeg &&& 63) = 24 := by rw [e_]; decide
          have n25_ : ¬ (h 0 i.toNatClampNeg &&& 63) = 25 := by rw [e_]; decide
          refine ev_tabIn 1076 rfl (by rw [e_]; decide) (by rw [e_]; decide) (by rw [e_]; rfl) (by decide) ?_
          exact w_c_bend L false h i 1 45225 hI h0 hi hL (fun h1 hI1 e1 => w_st L false h1 i 1 45225 h0 hi hL (fun i' e' => ih i' h1 (by omega) hI1 (e1.ft hz) (by omega)))
        · have n0_ : ¬ (h 0 i.toNatClampNeg &&& 63) = 0 := by rw [e_]; decide
          have n1_ : ¬ (h 0 i.toNatClampNeg &&& 63) = 1 := by rw [e_]; decide
          have n2_ : ¬ (h 0 i.toNatClampNeg &&& 63) = 2 := by rw [e_]; decide
          have n3_ : ¬ (h 0 i.toNatClampNeg &&& 63) = 3 := by rw [e_]; decide
          have n4_ : ¬ (h 0 i.toNatClampNeg &&& 63) = 4 := by rw [e_]; decide
          have n5_ : ¬ (h 0 i.toNatClampNeg &&& 63) = 5 := by rw [e_]; decide
          have n6_ : ¬ (h 0 i.toNatClampNeg &&& 63) = 6 := by rw [e_]; decide
          have n7_ : ¬ (h 0 i.toNatClampNeg &&& 63) = 7 := by rw [e_]; decide
          have n8_ : ¬ (h 0 i.toNatClampNeg &&& 63) = 8 := by rw [e_]; decide
          have n9_ : ¬ (h 0 i.toNatClampNeg &&& 63) = 9 := by rw [e_]; decide
          have n10_ : ¬ (h 0 i.toNatClampNeg &&& 63) = 10 := by rw [e_]; decide
          have n11_ : ¬ (h 0 i.toNatClampNeg &&& 63) = 11 := by rw [e_]; decide
          have n12_ : ¬ (h 0 i.toNatClampNeg &&& 63) = 12 := by rw [e_]; decide
          have n13_ : ¬ (h 0 i.toNatClampNeg &&& 63) = 13 := by rw [e_]; decide
          have n14_ : ¬ (h 0 i.toNatClampNeg &&& 63) = 14 := by rw [e_]; decide
          have n15_ : ¬ (h 0 i.toNatClampNeg &&& 63) = 15 := by rw [e_]; decide
          have n16_ : ¬ (h 0 i.toNatClampNeg &&& 63) = 16 := by rw [e_]; decide
          have n17_ : ¬ (h 0 i.toNatClampNeg &&& 63) = 17 := by rw [e_]; decide
          have n18_ : ¬ (h 0 i.toNatClampNeg &&& 63) = 18 := by rw [e_]; decide
          have n19_ : ¬ (h 0 i.toNatClampNeg &&& 63) = 19 := by rw [e_]; decide
          have n20_ : ¬ (h 0 i.toNatClampNeg &&& 63) = 20 := by rw [e_]; decide
          have n21_ : ¬ (h 0 i.toNatClampNeg &&& 63) = 21 := by rw [e_]; decide
          have n22_ : ¬ (h 0 i.toNatClampNeg &&& 63) = 22 := by rw [e_]; decide
          have n23_ : ¬ (h 0 i.toNatClampNeg &&& 63) = 23 := by rw [e_]; decide
          have n24_ : ¬ (h 0 i.toNatClampNeg &&& 63) = 24 := by rw [e_]; decide
          have n25_ : ¬ (h 0 i.toNatClampNeg &&& 63) = 25 := by rw [e_]; decide
          have n26_ : ¬ (h 0 i.toNatClampNeg &&& 63) = 26 := by rw [e_]; decide
          refine ev_tabIn 1109 rfl (by rw [e_]; decide) (by rw [e_]; decide) (by rw [e_]; rfl) (by decide) ?_
          exact w_c_speed L false h i 1 45225 hI h0 hi hL (fun h1 hI1 e1 => w_st L false h1 i 1 45225 h0 hi hL (fun i' e' => ih i' h1 (by omega) hI1 (e1.ft hz) (by omega)))
        · have n0_ : ¬ (h 0 i.toNatClampNeg &&& 63) = 0 := by rw [e_]; decide
          have n1_ : ¬ (h 0 i.toNatClampNeg &&& 63) = 1 := by rw [e_]; decide
          have n2_ : ¬ (h 0 i.toNatClampNeg &&& 63) = 2 := by rw [e_]; decide
          have n3_ : ¬ (h 0 i.toNatClampNeg &&& 63) = 3 := by rw [e_]; decide
          have n4_ : ¬ (h 0 i.toNatClampNeg &&& 63) = 4 := by rw [e_]; decide
          have n5_ : ¬ (h 0 i.toNatClampNeg &&& 63) = 5 := by rw [e_]; decide
          have n6_ : ¬ (h 0 i.toNatClampNeg &&& 63) = 6 := by rw [e_]; decide
          have n7_ : ¬ (h 0 i.toNatClampNeg &&& 63) = 7 := by rw [e_]; decide
          have n8_ : ¬ (h 0 i.toNatClampNeg &&& 63) = 8 := by rw [e_]; decide
          have n9_ : ¬ (h 0 i.toNatClampNeg &&& 63) = 9 := by rw [e_]; decide
          have n10_ : ¬ (h 0 i.toNatClampNeg &&& 63) = 10 := by rw [e_]; decide
          have n11_ : ¬ (h 0 i.toNatClampNeg &&& 63) = 11 := by rw [e_]; decide
          have n12_ : ¬ (h 0 i.toNatClampNeg &&& 63) = 12 := by rw [e_]; decide
          have n13_ : ¬ (h 0 i.toNatClampNeg &&& 63) = 13 := by rw [e_]; decide
          have n14_ : ¬ (h 0 i.toNatClampNeg &&& 63) = 14 := by rw [e_]; decide
          have n15_ : ¬ (h 0 i.toNatClampNeg &&& 63) = 15 := by rw [e_]; decide
          have n16_ : ¬ (h 0 i.toNatClampNeg &&& 63) = 16 := by rw [e_]; decide
          have n17_ : ¬ (h 0 i.toNatClampNeg &&& 63) = 17 := by rw [e_]; decide
          have n18_ : ¬ (h 0 i.toNatClampNeg &&& 63) = 18 := by rw [e_]; decide
          have n19_ : ¬ (h 0 i.toNatClampNeg &&& 63) = 19 := by rw [e_]; decide
          have n20_ : ¬ (h 0 i.toNatClampNeg &&& 63) = 20 := by rw [e_]; decide
          have n21_ : ¬ (h 0 i.toNatClampNeg &&& 63) = 21 := by rw [e_]; decide
          have n22_ : ¬ (h 0 i.toNatClampNeg &&& 63) = 22 := by rw [e_]; decide
          have n23_ : ¬ (h 0 i.toNatClampNeg &&& 63) = 23 := by rw [e_]; decide
          have n24_ : ¬ (h 0 i.toNatClampNeg &&& 63) = 24 := by rw [e_]; decide
          have n25_ : ¬ (h 0 i.toNatClampNeg &&& 63) = 25 := by rw [e_]; decide
          have n26_ : ¬ (h 0 i.toNatClampNeg &&& 63) = 26 := by rw [e_]; decide
          have n27_ : ¬ (h 0 i.toNatClampNeg &&& 63) = 27 := by rw [e_]; decide
          refine ev_tabIn 1132 rfl (by rw [e_]; decide) (by rw [e_]; decide) (by rw [e_]; rfl) (by decide) ?_
          exact w_c_far L false h i 1 45225 hI h0 hi hL (fun h1 hI1 e1 => w_st L false h1 i 1 45225 h0 hi hL (fun i' e' => ih i' h1 (by omega) hI1 (e1.ft hz) (by omega)))
        · have n0_ : ¬ (h 0 i.toNatClampNeg &&& 63) = 0 := by rw [e_]; decide
          have n1_ : ¬ (h 0 i.toNatClampNeg &&& 63) = 1 := by rw [e_]; decide
          have n2_ : ¬ (h 0 i.toNatClampNeg &&& 63) = 2 := by rw [e_]; decide
          have n3_ : ¬ (h 0 i.toNatClampNeg &&& 63) = 3 := by rw [e_]; decide
          have n4_ : ¬ (h 0 i.toNatClampNeg &&& 63) = 4 := by rw [e_]; decide
          have n5_ : ¬ (h 0 i.toNatClampNeg &&& 63) = 5 := by rw [e_]; decide
          have n6_ : ¬ (h 0 i.toNatClampNeg &&& 63) = 6 := by rw [e_]; decide
          have n7_ : ¬ (h 0 i.toNatClampNeg &&& 63) = 7 := by rw [e_]; decide
          have n8_ : ¬ (h 0 i.toNatClampNeg &&& 63) = 8 := by rw [e_]; decide
          have n9_ : ¬ (h 0 i.toNatClampNeg &&& 63) = 9 := by rw [e_]; decide
          have n10_ : ¬ (h 0 i.toNatClampNeg &&& 63) = 10 := by rw [e_]; decide
          have n11_ : ¬ (h 0 i.toNatClampNeg &&& 63) = 11 := by rw [e_]; decide
          have n12_ : ¬ (h 0 i.toNatClampNeg &&& 63) = 12 := by rw [e_]; decide
          have n13_ : ¬ (h 0 i.toNatClampNeg &&& 63) = 13 := by rw [e_]; decide
          have n14_ : ¬ (h 0 i.toNatClampNeg &&& 63) = 14 := by rw [e_]; decide
          have n15_ : ¬ (h 0 i.toNatClampNeg &&& 63) = 15 := by rw [e_]; decide
          have n16_ : ¬ (h 0 i.toNatClampNeg &&& 63) = 16 := by rw [e_]; decide
          have n17_ : ¬ (h 0 i.toNatClampNeg &&& 63) = 17 := by rw [e_]; decide
          have n18_ : ¬ (h 0 i.toNatClampNeg &&& 63) = 18 := by rw [e_]; decide
          have n19_ : ¬ (h 0 i.toNatClampNeg &&& 63) = 19 := by rw [e_]; decide
          have n20_ : ¬ (h 0 i.toNatClampNeg &&& 63) = 20 := by rw [e_]; decide
          have n21_ : ¬ (h 0 i.toNatClampNeg &&& 63) = 21 := by rw [e_]; decide
          have n22_ : ¬ (h 0 i.toNatClampNeg &&& 63) = 22 := by rw [e_]; decide
          have n23_ : ¬ (h 0 i.toNatClampNeg &&& 63) = 23 := by rw [e_]; decide
          have n24_ : ¬ (h 0 i.toNatClampNeg &&& 63) = 24 := by rw [e_]; decide
          have n25_ : ¬ (h 0 i.toNatClampNeg &&& 63) = 25 := by rw [e_]; decide
          have n26_ : ¬ (h 0 i.toNatClampNeg &&& 63) = 26 := by rw [e_]; decide
          have n27_ : ¬ (h 0 i.toNatClampNeg &&& 63) = 27 := by rw [e_]; decide
          have n28_ : ¬ (h 0 i.toNatClampNeg &&& 63) = 28 := by rw [e_]; decide
          refine ev_tabIn 1165 rfl (by rw [e_]; decide) (by rw [e_]; decide) (by rw [e_]; rfl) (by decide) ?_
          exact w_c_heard L false h i 1 45225 hI h0 hi hL (fun h1 hI1 e1 => w_st L false h1 i 1 45225 h0 hi hL (fun i' e' => ih i' h1 (by omega) hI1 (e1.ft hz) (by omega)))
        · have n0_ : ¬ (h 0 i.toNatClampNeg &&& 63) = 0 := by rw [e_]; decide
          have n1_ : ¬ (h 0 i.toNatClampNeg &&& 63) = 1 := by rw [e_]; decide
          have n2_ : ¬ (h 0 i.toNatClampNeg &&& 63) = 2 := by rw [e_]; decide
          have n3_ : ¬ (h 0 i.toNatClampNeg &&& 63) = 3 := by rw [e_]; decide
          have n4_ : ¬ (h 0 i.toNatClampNeg &&& 63) = 4 := by rw [e_]; decide
          have n5_ : ¬ (h 0 i.toNatClampNeg &&& 63) = 5 := by rw [e_]; decide
          have n6_ : ¬ (h 0 i.toNatClampNeg &&& 63) = 6 := by rw [e_]; decide
          have n7_ : ¬ (h 0 i.toNatClampNeg &&& 63) = 7 := by rw [e_]; decide
          have n8_ : ¬ (h 0 i.toNatClampNeg &&& 63) = 8 := by rw [e_]; decide
          have n9_ : ¬ (h 0 i.toNatClampNeg &&& 63) = 9 := by rw [e_]; decide
          have n10_ : ¬ (h 0 i.toNatClampNeg &&& 63) = 10 := by rw [e_]; decide
          have n11_ : ¬ (h 0 i.toNatClampNeg &&& 63) = 11 := by rw [e_]; decide
          have n12_ : ¬ (h 0 i.toNatClampNeg &&& 63) = 12 := by rw [e_]; decide
          have n13_ : ¬ (h 0 i.toNatClampNeg &&& 63) = 13 := by rw [e_]; decide
          have n14_ : ¬ (h 0 i.toNatClampNeg &&& 63) = 14 := by rw [e_]; decide
          have n15_ : ¬ (h 0 i.toNatClampNeg &&& 63) = 15 := by rw [e_]; decide
          have n16_ : ¬ (h 0 i.toNatClampNeg &&& 63) = 16 := by rw [e_]; decide
          have n17_ : ¬ (h 0 i.toNatClampNeg &&& 63) = 17 := by rw [e_]; decide
          have n18_ : ¬ (h 0 i.toNatClampNeg &&& 63) = 18 := by rw [e_]; decide
          have n19_ : ¬ (h 0 i.toNatClampNeg &&& 63) = 19 := by rw [e_]; decide
          have n20_ : ¬ (h 0 i.toNatClampNeg &&& 63) = 20 := by rw [e_]; decide
          have n21_ : ¬ (h 0 i.toNatClampNeg &&& 63) = 21 := by rw [e_]; decide
          have n22_ : ¬ (h 0 i.toNatClampNeg &&& 63) = 22 := by rw [e_]; decide
          have n23_ : ¬ (h 0 i.toNatClampNeg &&& 63) = 23 := by rw [e_]; decide
          have n24_ : ¬ (h 0 i.toNatClampNeg &&& 63) = 24 := by rw [e_]; decide
          have n25_ : ¬ (h 0 i.toNatClampNeg &&& 63) = 25 := by rw [e_]; decide
          have n26_ : ¬ (h 0 i.toNatClampNeg &&& 63) = 26 := by rw [e_]; decide
          have n27_ : ¬ (h 0 i.toNatClampNeg &&& 63) = 27 := by rw [e_]; decide
          have n28_ : ¬ (h 0 i.toNatClampNeg &&& 63) = 28 := by rw [e_]; decide
          have n29_ : ¬ (h 0 i.toNatClampNeg &&& 63) = 29 := by rw [e_]; decide
          refine ev_tabIn 1208 rfl (by rw [e_]; decide) (by rw [e_]; decide) (by rw [e_]; rfl) (by decide) ?_
          exact w_c_step L false h i 1 45225 hI h0 hi hL (fun h1 hI1 e1 => w_st L false h1 i 1 45225 h0 hi hL (fun i' e' => ih i' h1 (by omega) hI1 (e1.ft hz) (by omega)))
        · have n0_ : ¬ (h 0 i.toNatClampNeg &&& 63) = 0 := by rw [e_]; decide
          have n1_ : ¬ (h 0 i.toNatClampNeg &&& 63) = 1 := by rw [e_]; decide
          have n2_ : ¬ (h 0 i.toNatClampNeg &&& 63) = 2 := by rw [e_]; decide
          have n3_ : ¬ (h 0 i.toNatClampNeg &&& 63) = 3 := by rw [e_]; decide
          have n4_ : ¬ (h 0 i.toNatClampNeg &&& 63) = 4 := by rw [e_]; decide
          have n5_ : ¬ (h 0 i.toNatClampNeg &&& 63) = 5 := by rw [e_]; decide
          have n6_ : ¬ (h 0 i.toNatClampNeg &&& 63) = 6 := by rw [e_]; decide
          have n7_ : ¬ (h 0 i.toNatClampNeg &&& 63) = 7 := by rw [e_]; decide
          have n8_ : ¬ (h 0 i.toNatClampNeg &&& 63) = 8 := by rw [e_]; decide
          have n9_ : ¬ (h 0 i.toNatClampNeg &&& 63) = 9 := by rw [e_]; decide
          have n10_ : ¬ (h 0 i.toNatClampNeg &&& 63) = 10 := by rw [e_]; decide
          have n11_ : ¬ (h 0 i.toNatClampNeg &&& 63) = 11 := by rw [e_]; decide
          have n12_ : ¬ (h 0 i.toNatClampNeg &&& 63) = 12 := by rw [e_]; decide
          have n13_ : ¬ (h 0 i.toNatClampNeg &&& 63) = 13 := by rw [e_]; decide
          have n14_ : ¬ (h 0 i.toNatClampNeg &&& 63) = 14 := by rw [e_]; decide
          have n15_ : ¬ (h 0 i.toNatClampNeg &&& 63) = 15 := by rw [e_]; decide
          have n16_ : ¬ (h 0 i.toNatClampNeg &&& 63) = 16 := by rw [e_]; decide
          have n17_ : ¬ (h 0 i.toNatClampNeg &&& 63) = 17 := by rw [e_]; decide
          have n18_ : ¬ (h 0 i.toNatClampNeg &&& 63) = 18 := by rw [e_]; decide
          have n19_ : ¬ (h 0 i.toNatClampNeg &&& 63) = 19 := by rw [e_]; decide
          have n20_ : ¬ (h 0 i.toNatClampNeg &&& 63) = 20 := by rw [e_]; decide
          have n21_ : ¬ (h 0 i.toNatClampNeg &&& 63) = 21 := by rw [e_]; decide
          have n22_ : ¬ (h 0 i.toNatClampNeg &&& 63) = 22 := by rw [e_]; decide
          have n23_ : ¬ (h 0 i.toNatClampNeg &&& 63) = 23 := by rw [e_]; decide
          have n24_ : ¬ (h 0 i.toNatClampNeg &&& 63) = 24 := by rw [e_]; decide
          have n25_ : ¬ (h 0 i.toNatClampNeg &&& 63) = 25 := by rw [e_]; decide
          have n26_ : ¬ (h 0 i.toNatClampNeg &&& 63) = 26 := by rw [e_]; decide
          have n27_ : ¬ (h 0 i.toNatClampNeg &&& 63) = 27 := by rw [e_]; decide
          have n28_ : ¬ (h 0 i.toNatClampNeg &&& 63) = 28 := by rw [e_]; decide
          have n29_ : ¬ (h 0 i.toNatClampNeg &&& 63) = 29 := by rw [e_]; decide
          have n30_ : ¬ (h 0 i.toNatClampNeg &&& 63) = 30 := by rw [e_]; decide
          refine ev_tabIn 1251 rfl (by rw [e_]; decide) (by rw [e_]; decide) (by rw [e_]; rfl) (by decide) ?_
          exact w_c_undo L false h i 1 45225 hI h0 hi hL (fun h1 hI1 e1 => w_st L false h1 i 1 45225 h0 hi hL (fun i' e' => ih i' h1 (by omega) hI1 (e1.ft hz) (by omega)))
        · have n0_ : ¬ (h 0 i.toNatClampNeg &&& 63) = 0 := by rw [e_]; decide
          have n1_ : ¬ (h 0 i.toNatClampNeg &&& 63) = 1 := by rw [e_]; decide
          have n2_ : ¬ (h 0 i.toNatClampNeg &&& 63) = 2 := by rw [e_]; decide
          have n3_ : ¬ (h 0 i.toNatClampNeg &&& 63) = 3 := by rw [e_]; decide
          have n4_ : ¬ (h 0 i.toNatClampNeg &&& 63) = 4 := by rw [e_]; decide
          have n5_ : ¬ (h 0 i.toNatClampNeg &&& 63) = 5 := by rw [e_]; decide
          have n6_ : ¬ (h 0 i.toNatClampNeg &&& 63) = 6 := by rw [e_]; decide
          have n7_ : ¬ (h 0 i.toNatClampNeg &&& 63) = 7 := by rw [e_]; decide
          have n8_ : ¬ (h 0 i.toNatClampNeg &&& 63) = 8 := by rw [e_]; decide
          have n9_ : ¬ (h 0 i.toNatClampNeg &&& 63) = 9 := by rw [e_]; decide
          have n10_ : ¬ (h 0 i.toNatClampNeg &&& 63) = 10 := by rw [e_]; decide
          have n11_ : ¬ (h 0 i.toNatClampNeg &&& 63) = 11 := by rw [e_]; decide
          have n12_ : ¬ (h 0 i.toNatClampNeg &&& 63) = 12 := by rw [e_]; decide
          have n13_ : ¬ (h 0 i.toNatClampNeg &&& 63) = 13 := by rw [e_]; decide
          have n14_ : ¬ (h 0 i.toNatClampNeg &&& 63) = 14 := by rw [e_]; decide
          have n15_ : ¬ (h 0 i.toNatClampNeg &&& 63) = 15 := by rw [e_]; decide
          have n16_ : ¬ (h 0 i.toNatClampNeg &&& 63) = 16 := by rw [e_]; decide
          have n17_ : ¬ (h 0 i.toNatClampNeg &&& 63) = 17 := by rw [e_]; decide
          have n18_ : ¬ (h 0 i.toNatClampNeg &&& 63) = 18 := by rw [e_]; decide
          have n19_ : ¬ (h 0 i.toNatClampNeg &&& 63) = 19 := by rw [e_]; decide
          have n20_ : ¬ (h 0 i.toNatClampNeg &&& 63) = 20 := by rw [e_]; decide
          have n21_ : ¬ (h 0 i.toNatClampNeg &&& 63) = 21 := by rw [e_]; decide
          have n22_ : ¬ (h 0 i.toNatClampNeg &&& 63) = 22 := by rw [e_]; decide
          have n23_ : ¬ (h 0 i.toNatClampNeg &&& 63) = 23 := by rw [e_]; decide
          have n24_ : ¬ (h 0 i.toNatClampNeg &&& 63) = 24 := by rw [e_]; decide
          have n25_ : ¬ (h 0 i.toNatClampNeg &&& 63) = 25 := by rw [e_]; decide
          have n26_ : ¬ (h 0 i.toNatClampNeg &&& 63) = 26 := by rw [e_]; decide
          have n27_ : ¬ (h 0 i.toNatClampNeg &&& 63) = 27 := by rw [e_]; decide
          have n28_ : ¬ (h 0 i.toNatClampNeg &&& 63) = 28 := by rw [e_]; decide
          have n29_ : ¬ (h 0 i.toNatClampNeg &&& 63) = 29 := by rw [e_]; decide
          have n30_ : ¬ (h 0 i.toNatClampNeg &&& 63) = 30 := by rw [e_]; decide
          have n31_ : ¬ (h 0 i.toNatClampNeg &&& 63) = 31 := by rw [e_]; decide
          refine ev_tabIn 1264 rfl (by rw [e_]; decide) (by rw [e_]; decide) (by rw [e_]; rfl) (by decide) ?_
          exact w_c_sheet L false h i 1 45225 hI h0 hi hL (fun h1 hI1 e1 => w_st L false h1 i 1 45225 h0 hi hL (fun i' e' => ih i' h1 (by omega) hI1 (e1.ft hz) (by omega)))
        · have n0_ : ¬ (h 0 i.toNatClampNeg &&& 63) = 0 := by rw [e_]; decide
          have n1_ : ¬ (h 0 i.toNatClampNeg &&& 63) = 1 := by rw [e_]; decide
          have n2_ : ¬ (h 0 i.toNatClampNeg &&& 63) = 2 := by rw [e_]; decide
          have n3_ : ¬ (h 0 i.toNatClampNeg &&& 63) = 3 := by rw [e_]; decide
          have n4_ : ¬ (h 0 i.toNatClampNeg &&& 63) = 4 := by rw [e_]; decide
          have n5_ : ¬ (h 0 i.toNatClampNeg &&& 63) = 5 := by rw [e_]; decide
          have n6_ : ¬ (h 0 i.toNatClampNeg &&& 63) = 6 := by rw [e_]; decide
          have n7_ : ¬ (h 0 i.toNatClampNeg &&& 63) = 7 := by rw [e_]; decide
          have n8_ : ¬ (h 0 i.toNatClampNeg &&& 63) = 8 := by rw [e_]; decide
          have n9_ : ¬ (h 0 i.toNatClampNeg &&& 63) = 9 := by rw [e_]; decide
          have n10_ : ¬ (h 0 i.toNatClampNeg &&& 63) = 10 := by rw [e_]; decide
          have n11_ : ¬ (h 0 i.toNatClampNeg &&& 63) = 11 := by rw [e_]; decide
          have n12_ : ¬ (h 0 i.toNatClampNeg &&& 63) = 12 := by rw [e_]; decide
          have n13_ : ¬ (h 0 i.toNatClampNeg &&& 63) = 13 := by rw [e_]; decide
          have n14_ : ¬ (h 0 i.toNatClampNeg &&& 63) = 14 := by rw [e_]; decide
          have n15_ : ¬ (h 0 i.toNatClampNeg &&& 63) = 15 := by rw [e_]; decide
          have n16_ : ¬ (h 0 i.toNatClampNeg &&& 63) = 16 := by rw [e_]; decide
          have n17_ : ¬ (h 0 i.toNatClampNeg &&& 63) = 17 := by rw [e_]; decide
          have n18_ : ¬ (h 0 i.toNatClampNeg &&& 63) = 18 := by rw [e_]; decide
          have n19_ : ¬ (h 0 i.toNatClampNeg &&& 63) = 19 := by rw [e_]; decide
          have n20_ : ¬ (h 0 i.toNatClampNeg &&& 63) = 20 := by rw [e_]; decide
          have n21_ : ¬ (h 0 i.toNatClampNeg &&& 63) = 21 := by rw [e_]; decide
          have n22_ : ¬ (h 0 i.toNatClampNeg &&& 63) = 22 := by rw [e_]; decide
          have n23_ : ¬ (h 0 i.toNatClampNeg &&& 63) = 23 := by rw [e_]; decide
          have n24_ : ¬ (h 0 i.toNatClampNeg &&& 63) = 24 := by rw [e_]; decide
          have n25_ : ¬ (h 0 i.toNatClampNeg &&& 63) = 25 := by rw [e_]; decide
          have n26_ : ¬ (h 0 i.toNatClampNeg &&& 63) = 26 := by rw [e_]; decide
          have n27_ : ¬ (h 0 i.toNatClampNeg &&& 63) = 27 := by rw [e_]; decide
          have n28_ : ¬ (h 0 i.toNatClampNeg &&& 63) = 28 := by rw [e_]; decide
          have n29_ : ¬ (h 0 i.toNatClampNeg &&& 63) = 29 := by rw [e_]; decide
          have n30_ : ¬ (h 0 i.toNatClampNeg &&& 63) = 30 := by rw [e_]; decide
          have n31_ : ¬ (h 0 i.toNatClampNeg &&& 63) = 31 := by rw [e_]; decide
          have n32_ : ¬ (h 0 i.toNatClampNeg &&& 63) = 32 := by rw [e_]; decide
          refine ev_tabIn 1307 rfl (by rw [e_]; decide) (by rw [e_]; decide) (by rw [e_]; rfl) (by decide) ?_
          exact w_c_lay L false h i 1 45225 hI h0 hi hL (fun h1 hI1 e1 => w_st L false h1 i 1 45225 h0 hi hL (fun i' e' => ih i' h1 (by omega) hI1 (e1.ft hz) (by omega)))
        · have n0_ : ¬ (h 0 i.toNatClampNeg &&& 63) = 0 := by rw [e_]; decide
          have n1_ : ¬ (h 0 i.toNatClampNeg &&& 63) = 1 := by rw [e_]; decide
          have n2_ : ¬ (h 0 i.toNatClampNeg &&& 63) = 2 := by rw [e_]; decide
          have n3_ : ¬ (h 0 i.toNatClampNeg &&& 63) = 3 := by rw [e_]; decide
          have n4_ : ¬ (h 0 i.toNatClampNeg &&& 63) = 4 := by rw [e_]; decide
          have n5_ : ¬ (h 0 i.toNatClampNeg &&& 63) = 5 := by rw [e_]; decide
          have n6_ : ¬ (h 0 i.toNatClampNeg &&& 63) = 6 := by rw [e_]; decide
          have n7_ : ¬ (h 0 i.toNatClampNeg &&& 63) = 7 := by rw [e_]; decide
          have n8_ : ¬ (h 0 i.toNatClampNeg &&& 63) = 8 := by rw [e_]; decide
          have n9_ : ¬ (h 0 i.toNatClampNeg &&& 63) = 9 := by rw [e_]; decide
          have n10_ : ¬ (h 0 i.toNatClampNeg &&& 63) = 10 := by rw [e_]; decide
          have n11_ : ¬ (h 0 i.toNatClampNeg &&& 63) = 11 := by rw [e_]; decide
          have n12_ : ¬ (h 0 i.toNatClampNeg &&& 63) = 12 := by rw [e_]; decide
          have n13_ : ¬ (h 0 i.toNatClampNeg &&& 63) = 13 := by rw [e_]; decide
          have n14_ : ¬ (h 0 i.toNatClampNeg &&& 63) = 14 := by rw [e_]; decide
          have n15_ : ¬ (h 0 i.toNatClampNeg &&& 63) = 15 := by rw [e_]; decide
          have n16_ : ¬ (h 0 i.toNatClampNeg &&& 63) = 16 := by rw [e_]; decide
          have n17_ : ¬ (h 0 i.toNatClampNeg &&& 63) = 17 := by rw [e_]; decide
          have n18_ : ¬ (h 0 i.toNatClampNeg &&& 63) = 18 := by rw [e_]; decide
          have n19_ : ¬ (h 0 i.toNatClampNeg &&& 63) = 19 := by rw [e_]; decide
          have n20_ : ¬ (h 0 i.toNatClampNeg &&& 63) = 20 := by rw [e_]; decide
          have n21_ : ¬ (h 0 i.toNatClampNeg &&& 63) = 21 := by rw [e_]; decide
          have n22_ : ¬ (h 0 i.toNatClampNeg &&& 63) = 22 := by rw [e_]; decide
          have n23_ : ¬ (h 0 i.toNatClampNeg &&& 63) = 23 := by rw [e_]; decide
          have n24_ : ¬ (h 0 i.toNatClampNeg &&& 63) = 24 := by rw [e_]; decide
          have n25_ : ¬ (h 0 i.toNatClampNeg &&& 63) = 25 := by rw [e_]; decide
          have n26_ : ¬ (h 0 i.toNatClampNeg &&& 63) = 26 := by rw [e_]; decide
          have n27_ : ¬ (h 0 i.toNatClampNeg &&& 63) = 27 := by rw [e_]; decide
          have n28_ : ¬ (h 0 i.toNatClampNeg &&& 63) = 28 := by rw [e_]; decide
          have n29_ : ¬ (h 0 i.toNatClampNeg &&& 63) = 29 := by rw [e_]; decide
          have n30_ : ¬ (h 0 i.toNatClampNeg &&& 63) = 30 := by rw [e_]; decide
          have n31_ : ¬ (h 0 i.toNatClampNeg &&& 63) = 31 := by rw [e_]; decide
          have n32_ : ¬ (h 0 i.toNatClampNeg &&& 63) = 32 := by rw [e_]; decide
          have n33_ : ¬ (h 0 i.toNatClampNeg &&& 63) = 33 := by rw [e_]; decide
          refine ev_tabIn 1350 rfl (by rw [e_]; decide) (by rw [e_]; decide) (by rw [e_]; rfl) (by decide) ?_
          exact w_c_scan L false h i 1 45225 hI h0 hi hL (fun h1 hI1 e1 => w_st L false h1 i 1 45225 h0 hi hL (fun i' e' => ih i' h1 (by omega) hI1 (e1.ft hz) (by omega)))
        · have n0_ : ¬ (h 0 i.toNatClampNeg &&& 63) = 0 := by rw [e_]; decide
          have n1_ : ¬ (h 0 i.toNatClampNeg &&& 63) = 1 := by rw [e_]; decide
          have n2_ : ¬ (h 0 i.toNatClampNeg &&& 63) = 2 := by rw [e_]; decide
          have n3_ : ¬ (h 0 i.toNatClampNeg &&& 63) = 3 := by rw [e_]; decide
          have n4_ : ¬ (h 0 i.toNatClampNeg &&& 63) = 4 := by rw [e_]; decide
          have n5_ : ¬ (h 0 i.toNatClampNeg &&& 63) = 5 := by rw [e_]; decide
          have n6_ : ¬ (h 0 i.toNatClampNeg &&& 63) = 6 := by rw [e_]; decide
          have n7_ : ¬ (h 0 i.toNatClampNeg &&& 63) = 7 := by rw [e_]; decide
          have n8_ : ¬ (h 0 i.toNatClampNeg &&& 63) = 8 := by rw [e_]; decide
          have n9_ : ¬ (h 0 i.toNatClampNeg &&& 63) = 9 := by rw [e_]; decide
          have n10_ : ¬ (h 0 i.toNatClampNeg &&& 63) = 10 := by rw [e_]; decide
          have n11_ : ¬ (h 0 i.toNatClampNeg &&& 63) = 11 := by rw [e_]; decide
          have n12_ : ¬ (h 0 i.toNatClampNeg &&& 63) = 12 := by rw [e_]; decide
          have n13_ : ¬ (h 0 i.toNatClampNeg &&& 63) = 13 := by rw [e_]; decide
          have n14_ : ¬ (h 0 i.toNatClampNeg &&& 63) = 14 := by rw [e_]; decide
          have n15_ : ¬ (h 0 i.toNatClampNeg &&& 63) = 15 := by rw [e_]; decide
          have n16_ : ¬ (h 0 i.toNatClampNeg &&& 63) = 16 := by rw [e_]; decide
          have n17_ : ¬ (h 0 i.toNatClampNeg &&& 63) = 17 := by rw [e_]; decide
          have n18_ : ¬ (h 0 i.toNatClampNeg &&& 63) = 18 := by rw [e_]; decide
          have n19_ : ¬ (h 0 i.toNatClampNeg &&& 63) = 19 := by rw [e_]; decide
          have n20_ : ¬ (h 0 i.toNatClampNeg &&& 63) = 20 := by rw [e_]; decide
          have n21_ : ¬ (h 0 i.toNatClampNeg &&& 63) = 21 := by rw [e_]; decide
          have n22_ : ¬ (h 0 i.toNatClampNeg &&& 63) = 22 := by rw [e_]; decide
          have n23_ : ¬ (h 0 i.toNatClampNeg &&& 63) = 23 := by rw [e_]; decide
          have n24_ : ¬ (h 0 i.toNatClampNeg &&& 63) = 24 := by rw [e_]; decide
          have n25_ : ¬ (h 0 i.toNatClampNeg &&& 63) = 25 := by rw [e_]; decide
          have n26_ : ¬ (h 0 i.toNatClampNeg &&& 63) = 26 := by rw [e_]; decide
          have n27_ : ¬ (h 0 i.toNatClampNeg &&& 63) = 27 := by rw [e_]; decide
          have n28_ : ¬ (h 0 i.toNatClampNeg &&& 63) = 28 := by rw [e_]; decide
          have n29_ : ¬ (h 0 i.toNatClampNeg &&& 63) = 29 := by rw [e_]; decide
          have n30_ : ¬ (h 0 i.toNatClampNeg &&& 63) = 30 := by rw [e_]; decide
          have n31_ : ¬ (h 0 i.toNatClampNeg &&& 63) = 31 := by rw [e_]; decide
          have n32_ : ¬ (h 0 i.toNatClampNeg &&& 63) = 32 := by rw [e_]; decide
          have n33_ : ¬ (h 0 i.toNatClampNeg &&& 63) = 33 := by rw [e_]; decide
          have n34_ : ¬ (h 0 i.toNatClampNeg &&& 63) = 34 := by rw [e_]; decide
          refine ev_tabIn 1403 rfl (by rw [e_]; decide) (by rw [e_]; decide) (by rw [e_]; rfl) (by decide) ?_
          exact w_c_count L false h i 1 45225 hI h0 hi hL (fun h1 hI1 e1 => w_st L false h1 i 1 45225 h0 hi hL (fun i' e' => ih i' h1 (by omega) hI1 (e1.ft hz) (by omega)))

