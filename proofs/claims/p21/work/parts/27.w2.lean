theorem w_X1_pass_2 (L : Nat) (b : Bool) (h : Hp) (hB : Bx h) (a0 : Int32) : EvN mi_X1_pass [.ref 2, .int a0] (G0 L b) h [(2, 0), (2, 1), (2, 4)] := by
  refine (c_pass (G0 L b) h 2 rfl rfl a0).n ⟨fun i j => ?_, fun i j hw => ?_⟩
  · unfold z_pass
    by_cases e : i = 2
    · subst e
      rw [if_pos rfl]
      have v3 : B (h 2 3) 0 200 := hB 2 3
      have p0 : B (zq_p h 2 a0) 0 2147483647 := z_max_B (by decide : B 0 0 0) (B.any _) (Or.inl (by decide)) (by decide) (by decide)
      by_cases q : zq_p h 2 a0 ≤ h 2 3
      · rw [if_pos q]
        by_cases e0 : j = 0
        · subst e0
          rw [if_pos rfl]
          exact R_leX p0 v3 q (by decide)
        · rw [if_neg e0]
          by_cases e1 : j = 1
          · subst e1
            rw [if_pos rfl]
            exact B.any _
          · rw [if_neg e1]
            exact hB 2 j
      · rw [if_neg q]
        by_cases e0 : j = 0
        · subst e0
          rw [if_pos rfl]
          exact v3
        · rw [if_neg e0]
          by_cases e1 : j = 1
          · subst e1
            rw [if_pos rfl]
            exact B.any _
          · rw [if_neg e1]
            by_cases e4 : j = 4
            · subst e4
              rw [if_pos rfl]
              exact B.any _
            · rw [if_neg e4]
              exact hB 2 j
    · rw [if_neg e]
      exact hB i j
  · unfold z_pass
    by_cases e : i = 2
    · subst e
      have e0 : j ≠ 0 := fun z => by subst z; cases hw
      have e1 : j ≠ 1 := fun z => by subst z; cases hw
      have e4 : j ≠ 4 := fun z => by subst z; cases hw
      rw [if_pos rfl, if_neg e0, if_neg e0, if_neg e1, if_neg e1, if_neg e4]
      split <;> rfl
    · rw [if_neg e]

theorem w_X1_pass_3 (L : Nat) (b : Bool) (h : Hp) (hB : Bx h) (a0 : Int32) : EvN mi_X1_pass [.ref 3, .int a0] (G0 L b) h [(3, 0), (3, 1), (3, 4)] := by
  refine (c_pass (G0 L b) h 3 rfl rfl a0).n ⟨fun i j => ?_, fun i j hw => ?_⟩
  · unfold z_pass
    by_cases e : i = 3
    · subst e
      rw [if_pos rfl]
      have v3 : B (h 3 3) 0 200 := hB 3 3
      have p0 : B (zq_p h 3 a0) 0 2147483647 := z_max_B (by decide : B 0 0 0) (B.any _) (Or.inl (by decide)) (by decide) (by decide)
      by_cases q : zq_p h 3 a0 ≤ h 3 3
      · rw [if_pos q]
        by_cases e0 : j = 0
        · subst e0
          rw [if_pos rfl]
          exact R_leX p0 v3 q (by decide)
        · rw [if_neg e0]
          by_cases e1 : j = 1
          · subst e1
            rw [if_pos rfl]
            exact B.any _
          · rw [if_neg e1]
            exact hB 3 j
      · rw [if_neg q]
        by_cases e0 : j = 0
        · subst e0
          rw [if_pos rfl]
          exact v3
        · rw [if_neg e0]
          by_cases e1 : j = 1
          · subst e1
            rw [if_pos rfl]
            exact B.any _
          · rw [if_neg e1]
            by_cases e4 : j = 4
            · subst e4
              rw [if_pos rfl]
              exact B.any _
            · rw [if_neg e4]
              exact hB 3 j
    · rw [if_neg e]
      exact hB i j
  · unfold z_pass
    by_cases e : i = 3
    · subst e
      have e0 : j ≠ 0 := fun z => by subst z; cases hw
      have e1 : j ≠ 1 := fun z => by subst z; cases hw
      have e4 : j ≠ 4 := fun z => by subst z; cases hw
      rw [if_pos rfl, if_neg e0, if_neg e0, if_neg e1, if_neg e1, if_neg e4]
      split <;> rfl
    · rw [if_neg e]

set_option maxRecDepth 100000 in
set_option maxHeartbeats 4000000 in
theorem w_X1_copyFrom_2_3 (L : Nat) (b : Bool) (h : Hp) (hB : Bx h)  : EvN mi_X1_copyFrom [.ref 2, .ref 3] (G0 L b) h [(2, 0), (2, 1), (2, 2), (2, 3), (2, 4)] := by
  refine EvM.of2 (lo := [some (.ref 2), some (.ref 3)]) pf_X1_copyFrom ok_X1_copyFrom rfl rfl ?_
  have hJ0 : JW [(2, 0), (2, 1), (2, 2), (2, 3), (2, 4)] h h := JW.refl hB
  refine ev_aload_n rfl rfl rfl ?_
  refine ev_aload_n rfl rfl rfl ?_
  refine ev_getW (l := 0) (u := 200) hJ0.1 rfl rfl rfl fl_X1_7 rfl rfl rfl (fun v1 b1 e1 => ?_)
  refine ev_putW (l := 0) (u := 200) hJ0 rfl b1 (by decide) (by decide) rfl rfl rfl fl_X1_7 rfl rfl rfl rfl rfl (fun h2 hJ2 k2 => ?_)
  refine ev_aload_n rfl rfl rfl ?_
  refine ev_aload_n rfl rfl rfl ?_
  refine ev_getW (l := (-2147483648)) (u := 2147483647) hJ2.1 rfl rfl rfl fl_X1_13 rfl rfl rfl (fun v3 b3 e3 => ?_)
  refine ev_putW (l := (-2147483648)) (u := 2147483647) hJ2 rfl (B.any v3) (by decide) (by decide) rfl rfl rfl fl_X1_13 rfl rfl rfl rfl rfl (fun h4 hJ4 k4 => ?_)
  refine ev_aload_n rfl rfl rfl ?_
  refine ev_aload_n rfl rfl rfl ?_
  refine ev_getW (l := (-2147483648)) (u := 2147483647) hJ4.1 rfl rfl rfl fl_X1_16 rfl rfl rfl (fun v5 b5 e5 => ?_)
  refine ev_putW (l := (-2147483648)) (u := 2147483647) hJ4 rfl (B.any v5) (by decide) (by decide) rfl rfl rfl fl_X1_16 rfl rfl rfl rfl rfl (fun h6 hJ6 k6 => ?_)
  refine ev_aload_n rfl rfl rfl ?_
  refine ev_aload_n rfl rfl rfl ?_
  refine ev_getW (l := 0) (u := 200) hJ6.1 rfl rfl rfl fl_X1_19 rfl rfl rfl (fun v7 b7 e7 => ?_)
  refine ev_putW (l := 0) (u := 200) hJ6 rfl b7 (by decide) (by decide) rfl rfl rfl fl_X1_19 rfl rfl rfl rfl rfl (fun h8 hJ8 k8 => ?_)
  refine ev_aload_n rfl rfl rfl ?_
  refine ev_aload_n rfl rfl rfl ?_
  refine ev_getW (l := (-2147483648)) (u := 2147483647) hJ8.1 rfl rfl rfl fl_X1_22 rfl rfl rfl (fun v9 b9 e9 => ?_)
  refine ev_putW (l := (-2147483648)) (u := 2147483647) hJ8 rfl (B.any v9) (by decide) (by decide) rfl rfl rfl fl_X1_22 rfl rfl rfl rfl rfl (fun h10 hJ10 k10 => ?_)
  exact ev_vret rfl rfl trivial ⟨rfl, rfl, hJ10⟩

set_option maxRecDepth 100000 in
set_option maxHeartbeats 4000000 in
theorem w_X1_copyFrom_3_2 (L : Nat) (b : Bool) (h : Hp) (hB : Bx h)  : EvN mi_X1_copyFrom [.ref 3, .ref 2] (G0 L b) h [(3, 0), (3, 1), (3, 2), (3, 3), (3, 4)] := by
  refine EvM.of2 (lo := [some (.ref 3), some (.ref 2)]) pf_X1_copyFrom ok_X1_copyFrom rfl rfl ?_
  have hJ0 : JW [(3, 0), (3, 1), (3, 2), (3, 3), (3, 4)] h h := JW.refl hB
  refine ev_aload_n rfl rfl rfl ?_
  refine ev_aload_n rfl rfl rfl ?_
  refine ev_getW (l := 0) (u := 200) hJ0.1 rfl rfl rfl fl_X1_7 rfl rfl rfl (fun v1 b1 e1 => ?_)
  refine ev_putW (l := 0) (u := 200) hJ0 rfl b1 (by decide) (by decide) rfl rfl rfl fl_X1_7 rfl rfl rfl rfl rfl (fun h2 hJ2 k2 => ?_)
  refine ev_aload_n rfl rfl rfl ?_
  refine ev_aload_n rfl rfl rfl ?_
  refine ev_getW (l := (-2147483648)) (u := 2147483647) hJ2.1 rfl rfl rfl fl_X1_13 rfl rfl rfl (fun v3 b3 e3 => ?_)
  refine ev_putW (l := (-2147483648)) (u := 2147483647) hJ2 rfl (B.any v3) (by decide) (by decide) rfl rfl rfl fl_X1_13 rfl rfl rfl rfl rfl (fun h4 hJ4 k4 => ?_)
  refine ev_aload_n rfl rfl rfl ?_
  refine ev_aload_n rfl rfl rfl ?_
  refine ev_getW (l := (-2147483648)) (u := 2147483647) hJ4.1 rfl rfl rfl fl_X1_16 rfl rfl rfl (fun v5 b5 e5 => ?_)
  refine ev_putW (l := (-2147483648)) (u := 2147483647) hJ4 rfl (B.any v5) (by decide) (by decide) rfl rfl rfl fl_X1_16 rfl rfl rfl rfl rfl (fun h6 hJ6 k6 => ?_)
  refine ev_aload_n rfl rfl rfl ?_
  refine ev_aload_n rfl rfl rfl ?_
  refine ev_getW (l := 0) (u := 200) hJ6.1 rfl rfl rfl fl_X1_19 rfl rfl rfl (fun v7 b7 e7 => ?_)
  refine ev_putW (l := 0) (u := 200) hJ6 rfl b7 (by decide) (by decide) rfl rfl rfl fl_X1_19 rfl rfl rfl rfl rfl (fun h8 hJ8 k8 => ?_)
  refine ev_aload_n rfl rfl rfl ?_
  refine ev_aload_n rfl rfl rfl ?_
  refine ev_getW (l := (-2147483648)) (u := 2147483647) hJ8.1 rfl rfl rfl fl_X1_22 rfl rfl rfl (fun v9 b9 e9 => ?_)
  refine ev_putW (l := (-2147483648)) (u := 2147483647) hJ8 rfl (B.any v9) (by decide) (by decide) rfl rfl rfl fl_X1_22 rfl rfl rfl rfl rfl (fun h10 hJ10 k10 => ?_)
  exact ev_vret rfl rfl trivial ⟨rfl, rfl, hJ10⟩

set_option maxRecDepth 100000 in
set_option maxHeartbeats 4000000 in
theorem w_X1_after_2 (L : Nat) (b : Bool) (h : Hp) (hB : Bx h) (a0 : Int32) (a1 : Int32) : EvP mi_X1_after [.ref 2, .int a0, .int a1] (G0 L b) h (fun r : Int32 => B r 0 200) := by
  refine EvM.of2 (lo := [some (.ref 2), some (.int a0), some (.int a1)]) pf_X1_after ok_X1_after rfl rfl ?_
  refine ev_aload_n rfl rfl rfl ?_
  refine ev_getW (l := 0) (u := 200) hB rfl rfl rfl fl_X1_19 rfl rfl rfl (fun v1 b1 e1 => ?_)
  refine ev_iconst (v := 0) rfl rfl (by decide) ?_
  refine ev_iload_n rfl rfl rfl ?_
  refine ev_iconst (v := 2) rfl rfl (by decide) ?_
  refine ev_aload_n rfl rfl rfl ?_
  refine ev_getW (l := (-2147483648)) (u := 2147483647) hB rfl rfl rfl fl_X1_16 rfl rfl rfl (fun v2 b2 e2 => ?_)
  refine ev_imulA rfl rfl (fun v3 => ?_)
  refine ev_iaddA rfl rfl (fun v4 g4 => ?_)
  refine ev_iload_n rfl rfl rfl ?_
  refine ev_isubA rfl rfl (fun v5 g5 => ?_)
  refine ev_S2P rfl rfl lk_X1_25 st_J9_max_7cf53 rfl rfl (w_max (l := 0) (u := 2147483647) (G0 L b) h 0 v5 (by decide : B 0 0 0) (B.any v5) (Or.inl (by decide)) (by decide) (by decide)) (fun r6 q6 => ?_)
  refine ev_S2P rfl rfl lk_X1_31 st_J9_min_7cf53 rfl rfl (w_min (l := 0) (u := 200) (G0 L b) h v1 r6 b1 q6 (by decide) (by decide) (Or.inl (by decide))) (fun r7 q7 => ?_)
  exact ev_iret rfl rfl rfl ⟨⟨_, rfl, q7⟩, rfl, rfl⟩

set_option maxRecDepth 100000 in
set_option maxHeartbeats 4000000 in
theorem w_X0_keep_11_2_4 (L : Nat) (b : Bool) (h : Hp) (hB : Bx h)  : EvN mi_X0_keep [.ref 11, .ref 2, .ref 4] (G0 L b) h [(11, 1), (11, 2), (11, 3), (13, 999), (14, 999), (15, 999), (16, 999), (17, 999), (18, 999), (19, 999), (20, 999), (21, 999), (22, 999)] := by
  refine EvM.of2 (lo := [some (.ref 11), some (.ref 2), some (.ref 4), none]) pf_X0_keep ok_X0_keep rfl rfl ?_
  have hJ0 : JW [(11, 1), (11, 2), (11, 3), (13, 999), (14, 999), (15, 999), (16, 999), (17, 999), (18, 999), (19, 999), (20, 999), (21, 999), (22, 999)] h h := JW.refl hB
  refine ev_aload_n rfl rfl rfl ?_
  refine ev_getR (y := 12) rfl rfl fl_X0_13 rfl rfl rfl rfl ?_
  refine ev_aload_n rfl rfl rfl ?_
  refine ev_getW (l := 0) (u := 9) hJ0.1 rfl rfl rfl fl_X0_16 rfl rfl rfl (fun v1 b1 e1 => ?_)
  rcases B.c10 b1 with rfl | rfl | rfl | rfl | rfl | rfl | rfl | rfl | rfl | rfl
  · refine ev_aald (y := 13) (j := 0) rfl rfl rfl rfl (by unfold vp_in; decide) (by decide) rfl ?_
    refine ev_astore_n rfl rfl rfl rfl ?_
    dsimp only [List.set]
    refine ev_aload_n rfl rfl rfl ?_
    refine ev_iconst (v := 0) rfl rfl (by decide) ?_
    refine ev_aload_n rfl rfl rfl ?_
    refine ev_getW (l := 0) (u := 200) hJ0.1 rfl rfl rfl fl_X0_26 rfl rfl rfl (fun v2 b2 e2 => ?_)
    refine ev_iasK (j := 0) (n := 30) (l := 0) (u := 200) hJ0 (by decide : B 0 0 0) (by decide) (by decide) (by decide) rfl b2 (by decide) (by decide) rfl rfl rfl rfl rfl (fun h3 hJ3 k3 => ?_)
    refine ev_aload_n rfl rfl rfl ?_
    refine ev_iconst (v := 1) rfl rfl (by decide) ?_
    refine ev_aload_n rfl rfl rfl ?_
    refine ev_getW (l := (-2147483648)) (u := 2147483647) hJ3.1 rfl rfl rfl fl_X0_31 rfl rfl rfl (fun v4 b4 e4 => ?_)
    refine ev_iasK (j := 1) (n := 30) (l := (-2147483648)) (u := 2147483647) hJ3 (by decide : B 1 1 1) (by decide) (by decide) (by decide) rfl (B.any v4) (by decide) (by decide) rfl rfl rfl rfl rfl (fun h5 hJ5 k5 => ?_)
    refine ev_aload_n rfl rfl rfl ?_
    refine ev_iconst (v := 2) rfl rfl (by decide) ?_
    refine ev_aload_n rfl rfl rfl ?_
    refine ev_getW (l := (-2147483648)) (u := 2147483647) hJ5.1 rfl rfl rfl fl_X0_34 rfl rfl rfl (fun v6 b6 e6 => ?_)
    refine ev_iasK (j := 2) (n := 30) (l := (-2147483648)) (u := 2147483647) hJ5 (by decide : B 2 2 2) (by decide) (by decide) (by decide) rfl (B.any v6) (by decide) (by decide) rfl rfl rfl rfl rfl (fun h7 hJ7 k7 => ?_)
    refine ev_aload_n rfl rfl rfl ?_
    refine ev_iconst (v := 3) rfl rfl (by decide) ?_
    refine ev_aload_n rfl rfl rfl ?_
    refine ev_getW (l := 0) (u := 200) hJ7.1 rfl rfl rfl fl_X0_37 rfl rfl rfl (fun v8 b8 e8 => ?_)
    refine ev_iasK (j := 3) (n := 30) (l := 0) (u := 200) hJ7 (by decide : B 3 3 3) (by decide) (by decide) (by decide) rfl b8 (by decide) (by decide) rfl rfl rfl rfl rfl (fun h9 hJ9 k9 => ?_)
    refine ev_aload_n rfl rfl rfl ?_
    refine ev_iconst (v := 4) rfl rfl (by decide) ?_
    refine ev_aload_n rfl rfl rfl ?_
    refine ev_getW (l := (-2147483648)) (u := 2147483647) hJ9.1 rfl rfl rfl fl_X0_40 rfl rfl rfl (fun v10 b10 e10 => ?_)
    refine ev_iasK (j := 4) (n := 30) (l := (-2147483648)) (u := 2147483647) hJ9 (by decide : B 4 4 4) (by decide) (by decide) (by decide) rfl (B.any v10) (by decide) (by decide) rfl rfl rfl rfl rfl (fun h11 hJ11 k11 => ?_)
    refine ev_aload_n rfl rfl rfl ?_
    refine ev_iconst (v := 5) rfl rfl (by decide) ?_
    refine ev_aload_n rfl rfl rfl ?_
    refine ev_getW (l := (-2147483648)) (u := 2147483647) hJ11.1 rfl rfl rfl fl_X0_43 rfl rfl rfl (fun v12 b12 e12 => ?_)
    refine ev_iasK (j := 5) (n := 30) (l := (-2147483648)) (u := 2147483647) hJ11 (by decide : B 5 5 5) (by decide) (by decide) (by decide) rfl (B.any v12) (by decide) (by decide) rfl rfl rfl rfl rfl (fun h13 hJ13 k13 => ?_)
    refine ev_aload_n rfl rfl rfl ?_
    refine ev_getR (y := 9) rfl rfl fl_X0_48 rfl rfl rfl rfl ?_
    refine ev_iconst (v := 0) rfl rfl (by decide) ?_
    refine ev_aload_n rfl rfl rfl ?_
    refine ev_bipush (v := 6) rfl rfl (by decide) ?_
    refine ev_bipush (v := 12) rfl rfl (by decide) ?_
    refine ev_cpyW (sN := 0) (dN := 6) (n0 := 12) (n1 := 30) (l := (-2147483648)) (u := 2147483647) (l' := (-2147483648)) (u' := 2147483647) hJ13 (fun _ => rfl) (fun _ => rfl) (by decide) (by decide) (fun _ => rfl) (by decide : B 12 12 12) (by decide) (by decide) (by decide) (by decide) (by decide) (by decide) (by decide) rfl rfl cp_X0_52 rfl rfl rfl rfl rfl rfl (by decide) (fun h14 hJ14 k14 => ?_)
    refine ev_aload_n rfl rfl rfl ?_
    refine ev_getR (y := 10) rfl rfl fl_X0_58 rfl rfl rfl rfl ?_
    refine ev_iconst (v := 0) rfl rfl (by decide) ?_
    refine ev_aload_n rfl rfl rfl ?_
    refine ev_bipush (v := 18) rfl rfl (by decide) ?_
    refine ev_bipush (v := 12) rfl rfl (by decide) ?_
    refine ev_cpyW (sN := 0) (dN := 18) (n0 := 12) (n1 := 30) (l := (-2147483648)) (u := 2147483647) (l' := (-2147483648)) (u' := 2147483647) hJ14 (fun _ => rfl) (fun _ => rfl) (by decide) (by decide) (fun _ => rfl) (by decide : B 12 12 12) (by decide) (by decide) (by decide) (by decide) (by decide) (by decide) (by decide) rfl rfl cp_X0_52 rfl rfl rfl rfl rfl rfl (by decide) (fun h15 hJ15 k15 => ?_)
    refine ev_aload_n rfl rfl rfl ?_
    refine ev_aload_n rfl rfl rfl ?_
    refine ev_getV (v := 0) rfl rfl fl_X0_16 rfl rfl rfl (rd_c k15 (rd_c k14 (rd_a k13 (rd_a k11 (rd_a k9 (rd_a k7 (rd_a k5 (rd_a k3 e1 rfl) rfl) rfl) rfl) rfl) rfl) rfl) rfl) ?_
    refine ev_iconst (v := 1) rfl rfl (by decide) ?_
    refine ev_iaddB (l := 1) (u := 1) rfl rfl (by decide : B 0 0 0) (by decide : B 1 1 1) (by decide) (by decide) (by decide) (by decide) (fun v16 b16 e16 g16 => ?_)
    refine ev_bipush (v := 10) rfl rfl (by decide) ?_
    refine ev_iremB (u := 9) rfl rfl b16 (by decide : B 10 10 10) (by decide) (by decide) (by decide) (by decide) (fun v17 b17 => ?_)
    refine ev_putW (l := 0) (u := 9) hJ15 rfl b17 (by decide) (by decide) rfl rfl rfl fl_X0_16 rfl rfl rfl rfl rfl (fun h18 hJ18 k18 => ?_)
    refine ev_aload_n rfl rfl rfl ?_
    refine ev_bipush (v := 10) rfl rfl (by decide) ?_
    refine ev_aload_n rfl rfl rfl ?_
    refine ev_getW (l := (-2147483648)) (u := 2147483647) hJ18.1 rfl rfl rfl fl_X0_20 rfl rfl rfl (fun v19 b19 e19 => ?_)
    refine ev_iconst (v := 1) rfl rfl (by decide) ?_
    refine ev_iaddA rfl rfl (fun v20 g20 => ?_)
    refine ev_S2P rfl rfl lk_X0_61 st_J9_min_7cf53 rfl rfl (w_min (l := (-2147483648)) (u := 10) (G0 L b) h18 10 v20 (by decide : B 10 10 10) (B.any v20) (by decide) (by decide) (Or.inl (by decide))) (fun r21 q21 => ?_)
    refine ev_putW (l := (-2147483648)) (u := 2147483647) hJ18 rfl q21 (by decide) (by decide) rfl rfl rfl fl_X0_20 rfl rfl rfl rfl rfl (fun h22 hJ22 k22 => ?_)
    refine ev_aload_n rfl rfl rfl ?_
    refine ev_dup rfl rfl rfl ?_
    refine ev_getW (l := (-2147483648)) (u := 2147483647) hJ22.1 rfl rfl rfl fl_X0_23 rfl rfl rfl (fun v23 b23 e23 => ?_)
    refine ev_iconst (v := 1) rfl rfl (by decide) ?_
    refine ev_iaddA rfl rfl (fun v24 g24 => ?_)
    refine ev_putW (l := (-2147483648)) (u := 2147483647) hJ22 rfl (B.any v24) (by decide) (by decide) rfl rfl rfl fl_X0_23 rfl rfl rfl rfl rfl (fun h25 hJ25 k25 => ?_)
    exact ev_vret rfl rfl trivial ⟨rfl, rfl, hJ25⟩
  · refine ev_aald (y := 14) (j := 1) rfl rfl rfl rfl (by unfold vp_in; decide) (by decide) rfl ?_
    refine ev_astore_n rfl rfl rfl rfl ?_
    dsimp only [List.set]
    refine ev_aload_n rfl rfl rfl ?_
    refine ev_iconst (v := 0) rfl rfl (by decide) ?_
    refine ev_aload_n rfl rfl rfl ?_
    refine ev_getW (l := 0) (u := 200) hJ0.1 rfl rfl rfl fl_X0_26 rfl rfl rfl (fun v26 b26 e26 => ?_)
    refine ev_iasK (j := 0) (n := 30) (l := 0) (u := 200) hJ0 (by decide : B 0 0 0) (by decide) (by decide) (by decide) rfl b26 (by decide) (by decide) rfl rfl rfl rfl rfl (fun h27 hJ27 k27 => ?_)
    refine ev_aload_n rfl rfl rfl ?_
    refine ev_iconst (v := 1) rfl rfl (by decide) ?_
    refine ev_aload_n rfl rfl rfl ?_
    refine ev_getW (l := (-2147483648)) (u := 2147483647) hJ27.1 rfl rfl rfl fl_X0_31 rfl rfl rfl (fun v28 b28 e28 => ?_)
    refine ev_iasK (j := 1) (n := 30) (l := (-2147483648)) (u := 2147483647) hJ27 (by decide : B 1 1 1) (by decide) (by decide) (by decide) rfl (B.any v28) (by decide) (by decide) rfl rfl rfl rfl rfl (fun h29 hJ29 k29 => ?_)
    refine ev_aload_n rfl rfl rfl ?_
    refine ev_iconst (v := 2) rfl rfl (by decide) ?_
    refine ev_aload_n rfl rfl rfl ?_
    refine ev_getW (l := (-2147483648)) (u := 2147483647) hJ29.1 rfl rfl rfl fl_X0_34 rfl rfl rfl (fun v30 b30 e30 => ?_)
    refine ev_iasK (j := 2) (n := 30) (l := (-2147483648)) (u := 2147483647) hJ29 (by decide : B 2 2 2) (by decide) (by decide) (by decide) rfl (B.any v30) (by decide) (by decide) rfl rfl rfl rfl rfl (fun h31 hJ31 k31 => ?_)
    refine ev_aload_n rfl rfl rfl ?_
    refine ev_iconst (v := 3) rfl rfl (by decide) ?_
    refine ev_aload_n rfl rfl rfl ?_
    refine ev_getW (l := 0) (u := 200) hJ31.1 rfl rfl rfl fl_X0_37 rfl rfl rfl (fun v32 b32 e32 => ?_)
    refine ev_iasK (j := 3) (n := 30) (l := 0) (u := 200) hJ31 (by decide : B 3 3 3) (by decide) (by decide) (by decide) rfl b32 (by decide) (by decide) rfl rfl rfl rfl rfl (fun h33 hJ33 k33 => ?_)
    refine ev_aload_n rfl rfl rfl ?_
    refine ev_iconst (v := 4) rfl rfl (by decide) ?_
    refine ev_aload_n rfl rfl rfl ?_
    refine ev_getW (l := (-2147483648)) (u := 2147483647) hJ33.1 rfl rfl rfl fl_X0_40 rfl rfl rfl (fun v34 b34 e34 => ?_)
    refine ev_iasK (j := 4) (n := 30) (l := (-2147483648)) (u := 2147483647) hJ33 (by decide : B 4 4 4) (by decide) (by decide) (by decide) rfl (B.any v34) (by decide) (by decide) rfl rfl rfl rfl rfl (fun h35 hJ35 k35 => ?_)
    refine ev_aload_n rfl rfl rfl ?_
    refine ev_iconst (v := 5) rfl rfl (by decide) ?_
    refine ev_aload_n rfl rfl rfl ?_
    refine ev_getW (l := (-2147483648)) (u := 2147483647) hJ35.1 rfl rfl rfl fl_X0_43 rfl rfl rfl (fun v36 b36 e36 => ?_)
    refine ev_iasK (j := 5) (n := 30) (l := (-2147483648)) (u := 2147483647) hJ35 (by decide : B 5 5 5) (by decide) (by decide) (by decide) rfl (B.any v36) (by decide) (by decide) rfl rfl rfl rfl rfl (fun h37 hJ37 k37 => ?_)
    refine ev_aload_n rfl rfl rfl ?_
    refine ev_getR (y := 9) rfl rfl fl_X0_48 rfl rfl rfl rfl ?_
    refine ev_iconst (v := 0) rfl rfl (by decide) ?_
    refine ev_aload_n rfl rfl rfl ?_
    refine ev_bipush (v := 6) rfl rfl (by decide) ?_
    refine ev_bipush (v := 12) rfl rfl (by decide) ?_
    refine ev_cpyW (sN := 0) (dN := 6) (n0 := 12) (n1 := 30) (l := (-2147483648)) (u := 2147483647) (l' := (-2147483648)) (u' := 2147483647) hJ37 (fun _ => rfl) (fun _ => rfl) (by decide) (by decide) (fun _ => rfl) (by decide : B 12 12 12) (by decide) (by decide) (by decide) (by decide) (by decide) (by decide) (by decide) rfl rfl cp_X0_52 rfl rfl rfl rfl rfl rfl (by decide) (fun h38 hJ38 k38 => ?_)
    refine ev_aload_n rfl rfl rfl ?_
    refine ev_getR (y := 10) rfl rfl fl_X0_58 rfl rfl rfl rfl ?_
    refine ev_iconst (v := 0) rfl rfl (by decide) ?_
    refine ev_aload_n rfl rfl rfl ?_
    refine ev_bipush (v := 18) rfl rfl (by decide) ?_
    refine ev_bipush (v := 12) rfl rfl (by decide) ?_
    refine ev_cpyW (sN := 0) (dN := 18) (n0 := 12) (n1 := 30) (l := (-2147483648)) (u := 2147483647) (l' := (-2147483648)) (u' := 2147483647) hJ38 (fun _ => rfl) (fun _ => rfl) (by decide) (by decide) (fun _ => rfl) (by decide : B 12 12 12) (by decide) (by decide) (by decide) (by decide) (by decide) (by decide) (by decide) rfl rfl cp_X0_52 rfl rfl rfl rfl rfl rfl (by decide) (fun h39 hJ39 k39 => ?_)
    refine ev_aload_n rfl rfl rfl ?_
    refine ev_aload_n rfl rfl rfl ?_
    refine ev_getV (v := 1) rfl rfl fl_X0_16 rfl rfl rfl (rd_c k39 (rd_c k38 (rd_a k37 (rd_a k35 (rd_a k33 (rd_a k31 (rd_a k29 (rd_a k27 e1 rfl) rfl) rfl) rfl) rfl) rfl) rfl) rfl) ?_
    refine ev_iconst (v := 1) rfl rfl (by decide) ?_
    refine ev_iaddB (l := 2) (u := 2) rfl rfl (by decide : B 1 1 1) (by decide : B 1 1 1) (by decide) (by decide) (by decide) (by decide) (fun v40 b40 e40 g40 => ?_)
    refine ev_bipush (v := 10) rfl rfl (by decide) ?_
    refine ev_iremB (u := 9) rfl rfl b40 (by decide : B 10 10 10) (by decide) (by decide) (by decide) (by decide) (fun v41 b41 => ?_)
    refine ev_putW (l := 0) (u := 9) hJ39 rfl b41 (by decide) (by decide) rfl rfl rfl fl_X0_16 rfl rfl rfl rfl rfl (fun h42 hJ42 k42 => ?_)
    refine ev_aload_n rfl rfl rfl ?_
    refine ev_bipush (v := 10) rfl rfl (by decide) ?_
    refine ev_aload_n rfl rfl rfl ?_
    refine ev_getW (l := (-2147483648)) (u := 2147483647) hJ42.1 rfl rfl rfl fl_X0_20 rfl rfl rfl (fun v43 b43 e43 => ?_)
    refine ev_iconst (v := 1) rfl rfl (by decide) ?_
    refine ev_iaddA rfl rfl (fun v44 g44 => ?_)
    refine ev_S2P rfl rfl lk_X0_61 st_J9_min_7cf53 rfl rfl (w_min (l := (-2147483648)) (u := 10) (G0 L b) h42 10 v44 (by decide : B 10 10 10) (B.any v44) (by decide) (by decide) (Or.inl (by decide))) (fun r45 q45 => ?_)
    refine ev_putW (l := (-2147483648)) (u := 2147483647) hJ42 rfl q45 (by decide) (by decide) rfl rfl rfl fl_X0_20 rfl rfl rfl rfl rfl (fun h46 hJ46 k46 => ?_)
    refine ev_aload_n rfl rfl rfl ?_
    refine ev_dup rfl rfl rfl ?_
    refine ev_getW (l := (-2147483648)) (u := 2147483647) hJ46.1 rfl rfl rfl fl_X0_23 rfl rfl rfl (fun v47 b47 e47 => ?_)
    refine ev_iconst (v := 1) rfl rfl (by decide) ?_
    refine ev_iaddA rfl rfl (fun v48 g48 => ?_)
    refine ev_putW (l := (-2147483648)) (u := 2147483647) hJ46 rfl (B.any v48) (by decide) (by decide) rfl rfl rfl fl_X0_23 rfl rfl rfl rfl rfl (fun h49 hJ49 k49 => ?_)
    exact ev_vret rfl rfl trivial ⟨rfl, rfl, hJ49⟩
  · refine ev_aald (y := 15) (j := 2) rfl rfl rfl rfl (by unfold vp_in; decide) (by decide) rfl ?_
    refine ev_astore_n rfl rfl rfl rfl ?_
    dsimp only [List.set]
    refine ev_aload_n rfl rfl rfl ?_
    refine ev_iconst (v := 0) rfl rfl (by decide) ?_
    refine ev_aload_n rfl rfl rfl ?_
    refine ev_getW (l := 0) (u := 200) hJ0.1 rfl rfl rfl fl_X0_26 rfl rfl rfl (fun v50 b50 e50 => ?_)
    refine ev_iasK (j := 0) (n := 30) (l := 0) (u := 200) hJ0 (by decide : B 0 0 0) (by decide) (by decide) (by decide) rfl b50 (by decide) (by decide) rfl rfl rfl rfl rfl (fun h51 hJ51 k51 => ?_)
    refine ev_aload_n rfl rfl rfl ?_
    refine ev_iconst (v := 1) rfl rfl (by decide) ?_
    refine ev_aload_n rfl rfl rfl ?_
    refine ev_getW (l := (-2147483648)) (u := 2147483647) hJ51.1 rfl rfl rfl fl_X0_31 rfl rfl rfl (fun v52 b52 e52 => ?_)
    refine ev_iasK (j := 1) (n := 30) (l := (-2147483648)) (u := 2147483647) hJ51 (by decide : B 1 1 1) (by decide) (by decide) (by decide) rfl (B.any v52) (by decide) (by decide) rfl rfl rfl rfl rfl (fun h53 hJ53 k53 => ?_)
    refine ev_aload_n rfl rfl rfl ?_
    refine ev_iconst (v := 2) rfl rfl (by decide) ?_
    refine ev_aload_n rfl rfl rfl ?_
    refine ev_getW (l := (-2147483648)) (u := 2147483647) hJ53.1 rfl rfl rfl fl_X0_34 rfl rfl rfl (fun v54 b54 e54 => ?_)
    refine ev_iasK (j := 2) (n := 30) (l := (-2147483648)) (u := 2147483647) hJ53 (by decide : B 2 2 2) (by decide) (by decide) (by decide) rfl (B.any v54) (by decide) (by decide) rfl rfl rfl rfl rfl (fun h55 hJ55 k55 => ?_)
    refine ev_aload_n rfl rfl rfl ?_
    refine ev_iconst (v := 3) rfl rfl (by decide) ?_
    refine ev_aload_n rfl rfl rfl ?_
    refine ev_getW (l := 0) (u := 200) hJ55.1 rfl rfl rfl fl_X0_37 rfl rfl rfl (fun v56 b56 e56 => ?_)
    refine ev_iasK (j := 3) (n := 30) (l := 0) (u := 200) hJ55 (by decide : B 3 3 3) (by decide) (by decide) (by decide) rfl b56 (by decide) (by decide) rfl rfl rfl rfl rfl (fun h57 hJ57 k57 => ?_)
    refine ev_aload_n rfl rfl rfl ?_
    refine ev_iconst (v := 4) rfl rfl (by decide) ?_
    refine ev_aload_n rfl rfl rfl ?_
    refine ev_getW (l := (-2147483648)) (u := 2147483647) hJ57.1 rfl rfl rfl fl_X0_40 rfl rfl rfl (fun v58 b58 e58 => ?_)
    refine ev_iasK (j := 4) (n := 30) (l := (-2147483648)) (u := 2147483647) hJ57 (by decide : B 4 4 4) (by decide) (by decide) (by decide) rfl (B.any v58) (by decide) (by decide) rfl rfl rfl rfl rfl (fun h59 hJ59 k59 => ?_)
    refine ev_aload_n rfl rfl rfl ?_
    refine ev_iconst (v := 5) rfl rfl (by decide) ?_
    refine ev_aload_n rfl rfl rfl ?_
    refine ev_getW (l := (-2147483648)) (u := 2147483647) hJ59.1 rfl rfl rfl fl_X0_43 rfl rfl rfl (fun v60 b60 e60 => ?_)
    refine ev_iasK (j := 5) (n := 30) (l := (-2147483648)) (u := 2147483647) hJ59 (by decide : B 5 5 5) (by decide) (by decide) (by decide) rfl (B.any v60) (by decide) (by decide) rfl rfl rfl rfl rfl (fun h61 hJ61 k61 => ?_)
    refine ev_aload_n rfl rfl rfl ?_
    refine ev_getR (y := 9) rfl rfl fl_X0_48 rfl rfl rfl rfl ?_
    refine ev_iconst (v := 0) rfl rfl (by decide) ?_
    refine ev_aload_n rfl rfl rfl ?_
    refine ev_bipush (v := 6) rfl rfl (by decide) ?_
    refine ev_bipush (v := 12) rfl rfl (by decide) ?_
    refine ev_cpyW (sN := 0) (dN := 6) (n0 := 12) (n1 := 30) (l := (-2147483648)) (u := 2147483647) (l' := (-2147483648)) (u' := 2147483647) hJ61 (fun _ => rfl) (fun _ => rfl) (by decide) (by decide) (fun _ => rfl) (by decide : B 12 12 12) (by decide) (by decide) (by decide) (by decide) (by decide) (by decide) (by decide) rfl rfl cp_X0_52 rfl rfl rfl rfl rfl rfl (by decide) (fun h62 hJ62 k62 => ?_)
    refine ev_aload_n rfl rfl rfl ?_
    refine ev_getR (y := 10) rfl rfl fl_X0_58 rfl rfl rfl rfl ?_
    refine ev_iconst (v := 0) rfl rfl (by decide) ?_
    refine ev_aload_n rfl rfl rfl ?_
    refine ev_bipush (v := 18) rfl rfl (by decide) ?_
    refine ev_bipush (v := 12) rfl rfl (by decide) ?_
    refine ev_cpyW (sN := 0) (dN := 18) (n0 := 12) (n1 := 30) (l := (-2147483648)) (u := 2147483647) (l' := (-2147483648)) (u' := 2147483647) hJ62 (fun _ => rfl) (fun _ => rfl) (by decide) (by decide) (fun _ => rfl) (by decide : B 12 12 12) (by decide) (by decide) (by decide) (by decide) (by decide) (by decide) (by decide) rfl rfl cp_X0_52 rfl rfl rfl rfl rfl rfl (by decide) (fun h63 hJ63 k63 => ?_)
    refine ev_aload_n rfl rfl rfl ?_
    refine ev_aload_n rfl rfl rfl ?_
    refine ev_getV (v := 2) rfl rfl fl_X0_16 rfl rfl rfl (rd_c k63 (rd_c k62 (rd_a k61 (rd_a k59 (rd_a k57 (rd_a k55 (rd_a k53 (rd_a k51 e1 rfl) rfl) rfl) rfl) rfl) rfl) rfl) rfl) ?_
    refine ev_iconst (v := 1) rfl rfl (by decide) ?_
    refine ev_iaddB (l := 3) (u := 3) rfl rfl (by decide : B 2 2 2) (by decide : B 1 1 1) (by decide) (by decide) (by decide) (by decide) (fun v64 b64 e64 g64 => ?_)
    refine ev_bipush (v := 10) rfl rfl (by decide) ?_
    refine ev_iremB (u := 9) rfl rfl b64 (by decide : B 10 10 10) (by decide) (by decide) (by decide) (by decide) (fun v65 b65 => ?_)
    refine ev_putW (l := 0) (u := 9) hJ63 rfl b65 (by decide) (by decide) rfl rfl rfl fl_X0_16 rfl rfl rfl rfl rfl (fun h66 hJ66 k66 => ?_)
    refine ev_aload_n rfl rfl rfl ?_
    refine ev_bipush (v := 10) rfl rfl (by decide) ?_
    refine ev_aload_n rfl rfl rfl ?_
    refine ev_getW (l := (-2147483648)) (u := 2147483647) hJ66.1 rfl rfl rfl fl_X0_20 rfl rfl rfl (fun v67 b67 e67 => ?_)
    refine ev_iconst (v := 1) rfl rfl (by decide) ?_
    refine ev_iaddA rfl rfl (fun v68 g68 => ?_)
    refine ev_S2P rfl rfl lk_X0_61 st_J9_min_7cf53 rfl rfl (w_min (l := (-2147483648)) (u := 10) (G0 L b) h66 10 v68 (by decide : B 10 10 10) (B.any v68) (by decide) (by decide) (Or.inl (by decide))) (fun r69 q69 => ?_)
    refine ev_putW (l := (-2147483648)) (u := 2147483647) hJ66 rfl q69 (by decide) (by decide) rfl rfl rfl fl_X0_20 rfl rfl rfl rfl rfl (fun h70 hJ70 k70 => ?_)
    refine ev_aload_n rfl rfl rfl ?_
    refine ev_dup rfl rfl rfl ?_
    refine ev_getW (l := (-2147483648)) (u := 2147483647) hJ70.1 rfl rfl rfl fl_X0_23 rfl rfl rfl (fun v71 b71 e71 => ?_)
    refine ev_iconst (v := 1) rfl rfl (by decide) ?_
    refine ev_iaddA rfl rfl (fun v72 g72 => ?_)
    refine ev_putW (l := (-2147483648)) (u := 2147483647) hJ70 rfl (B.any v72) (by decide) (by decide) rfl rfl rfl fl_X0_23 rfl rfl rfl rfl rfl (fun h73 hJ73 k73 => ?_)
    exact ev_vret rfl rfl trivial ⟨rfl, rfl, hJ73⟩
  · refine ev_aald (y := 16) (j := 3) rfl rfl rfl rfl (by unfold vp_in; decide) (by decide) rfl ?_
    refine ev_astore_n rfl rfl rfl rfl ?_
    dsimp only [List.set]
    refine ev_aload_n rfl rfl rfl ?_
    refine ev_iconst (v := 0) rfl rfl (by decide) ?_
    refine ev_aload_n rfl rfl rfl ?_
    refine ev_getW (l := 0) (u := 200) hJ0.1 rfl rfl rfl fl_X0_26 rfl rfl rfl (fun v74 b74 e74 => ?_)
    refine ev_iasK (j := 0) (n := 30) (l := 0) (u := 200) hJ0 (by decide : B 0 0 0) (by decide) (by decide) (by decide) rfl b74 (by decide) (by decide) rfl rfl rfl rfl rfl (fun h75 hJ75 k75 => ?_)
    refine ev_aload_n rfl rfl rfl ?_
    refine ev_iconst (v := 1) rfl rfl (by decide) ?_
    refine ev_aload_n rfl rfl rfl ?_
    refine ev_getW (l := (-2147483648)) (u := 2147483647) hJ75.1 rfl rfl rfl fl_X0_31 rfl rfl rfl (fun v76 b76 e76 => ?_)
    refine ev_iasK (j := 1) (n := 30) (l := (-2147483648)) (u := 2147483647) hJ75 (by decide : B 1 1 1) (by decide) (by decide) (by decide) rfl (B.any v76) (by decide) (by decide) rfl rfl rfl rfl rfl (fun h77 hJ77 k77 => ?_)
    refine ev_aload_n rfl rfl rfl ?_
    refine ev_iconst (v := 2) rfl rfl (by decide) ?_
    refine ev_aload_n rfl rfl rfl ?_
    refine ev_getW (l := (-2147483648)) (u := 2147483647) hJ77.1 rfl rfl rfl fl_X0_34 rfl rfl rfl (fun v78 b78 e78 => ?_)
    refine ev_iasK (j := 2) (n := 30) (l := (-2147483648)) (u := 2147483647) hJ77 (by decide : B 2 2 2) (by decide) (by decide) (by decide) rfl (B.any v78) (by decide) (by decide) rfl rfl rfl rfl rfl (fun h79 hJ79 k79 => ?_)
    refine ev_aload_n rfl rfl rfl ?_
    refine ev_iconst (v := 3) rfl rfl (by decide) ?_
    refine ev_aload_n rfl rfl rfl ?_
    refine ev_getW (l := 0) (u := 200) hJ79.1 rfl rfl rfl fl_X0_37 rfl rfl rfl (fun v80 b80 e80 => ?_)
    refine ev_iasK (j := 3) (n := 30) (l := 0) (u := 200) hJ79 (by decide : B 3 3 3) (by decide) (by decide) (by decide) rfl b80 (by decide) (by decide) rfl rfl rfl rfl rfl (fun h81 hJ81 k81 => ?_)
    refine ev_aload_n rfl rfl rfl ?_
    refine ev_iconst (v := 4) rfl rfl (by decide) ?_
    refine ev_aload_n rfl rfl rfl ?_
    refine ev_getW (l := (-2147483648)) (u := 2147483647) hJ81.1 rfl rfl rfl fl_X0_40 rfl rfl rfl (fun v82 b82 e82 => ?_)
    refine ev_iasK (j := 4) (n := 30) (l := (-2147483648)) (u := 2147483647) hJ81 (by decide : B 4 4 4) (by decide) (by decide) (by decide) rfl (B.any v82) (by decide) (by decide) rfl rfl rfl rfl rfl (fun h83 hJ83 k83 => ?_)
    refine ev_aload_n rfl rfl rfl ?_
    refine ev_iconst (v := 5) rfl rfl (by decide) ?_
    refine ev_aload_n rfl rfl rfl ?_
    refine ev_getW (l := (-2147483648)) (u := 2147483647) hJ83.1 rfl rfl rfl fl_X0_43 rfl rfl rfl (fun v84 b84 e84 => ?_)
    refine ev_iasK (j := 5) (n := 30) (l := (-2147483648)) (u := 2147483647) hJ83 (by decide : B 5 5 5) (by decide) (by decide) (by decide) rfl (B.any v84) (by decide) (by decide) rfl rfl rfl rfl rfl (fun h85 hJ85 k85 => ?_)
    refine ev_aload_n rfl rfl rfl ?_
    refine ev_getR (y := 9) rfl rfl fl_X0_48 rfl rfl rfl rfl ?_
    refine ev_iconst (v := 0) rfl rfl (by decide) ?_
    refine ev_aload_n rfl rfl rfl ?_
    refine ev_bipush (v := 6) rfl rfl (by decide) ?_
    refine ev_bipush (v := 12) rfl rfl (by decide) ?_
    refine ev_cpyW (sN := 0) (dN := 6) (n0 := 12) (n1 := 30) (l := (-2147483648)) (u := 2147483647) (l' := (-2147483648)) (u' := 2147483647) hJ85 (fun _ => rfl) (fun _ => rfl) (by decide) (by decide) (fun _ => rfl) (by decide : B 12 12 12) (by decide) (by decide) (by decide) (by decide) (by decide) (by decide) (by decide) rfl rfl cp_X0_52 rfl rfl rfl rfl rfl rfl (by decide) (fun h86 hJ86 k86 => ?_)
    refine ev_aload_n rfl rfl rfl ?_
    refine ev_getR (y := 10) rfl rfl fl_X0_58 rfl rfl rfl rfl ?_
    refine ev_iconst (v := 0) rfl rfl (by decide) ?_
    refine ev_aload_n rfl rfl rfl ?_
    refine ev_bipush (v := 18) rfl rfl (by decide) ?_
    refine ev_bipush (v := 12) rfl rfl (by decide) ?_
    refine ev_cpyW (sN := 0) (dN := 18) (n0 := 12) (n1 := 30) (l := (-2147483648)) (u := 2147483647) (l' := (-2147483648)) (u' := 2147483647) hJ86 (fun _ => rfl) (fun _ => rfl) (by decide) (by decide) (fun _ => rfl) (by decide : B 12 12 12) (by decide) (by decide) (by decide) (by decide) (by decide) (by decide) (by decide) rfl rfl cp_X0_52 rfl rfl rfl rfl rfl rfl (by decide) (fun h87 hJ87 k87 => ?_)
    refine ev_aload_n rfl rfl rfl ?_
    refine ev_aload_n rfl rfl rfl ?_
    refine ev_getV (v := 3) rfl rfl fl_X0_16 rfl rfl rfl (rd_c k87 (rd_c k86 (rd_a k85 (rd_a k83 (rd_a k81 (rd_a k79 (rd_a k77 (rd_a k75 e1 rfl) rfl) rfl) rfl) rfl) rfl) rfl) rfl) ?_
    refine ev_iconst (v := 1) rfl rfl (by decide) ?_
    refine ev_iaddB (l := 4) (u := 4) rfl rfl (by decide : B 3 3 3) (by decide : B 1 1 1) (by decide) (by decide) (by decide) (by decide) (fun v88 b88 e88 g88 => ?_)
    refine ev_bipush (v := 10) rfl rfl (by decide) ?_
    refine ev_iremB (u := 9) rfl rfl b88 (by decide : B 10 10 10) (by decide) (by decide) (by decide) (by decide) (fun v89 b89 => ?_)
    refine ev_putW (l := 0) (u := 9) hJ87 rfl b89 (by decide) (by decide) rfl rfl rfl fl_X0_16 rfl rfl rfl rfl rfl (fun h90 hJ90 k90 => ?_)
    refine ev_aload_n rfl rfl rfl ?_
    refine ev_bipush (v := 10) rfl rfl (by decide) ?_
    refine ev_aload_n rfl rfl rfl ?_
    refine ev_getW (l := (-2147483648)) (u := 2147483647) hJ90.1 rfl rfl rfl fl_X0_20 rfl rfl rfl (fun v91 b91 e91 => ?_)
    refine ev_iconst (v := 1) rfl rfl (by decide) ?_
    refine ev_iaddA rfl rfl (fun v92 g92 => ?_)
    refine ev_S2P rfl rfl lk_X0_61 st_J9_min_7cf53 rfl rfl (w_min (l := (-2147483648)) (u := 10) (G0 L b) h90 10 v92 (by decide : B 10 10 10) (B.any v92) (by decide) (by decide) (Or.inl (by decide))) (fun r93 q93 => ?_)
    refine ev_putW (l := (-2147483648)) (u := 2147483647) hJ90 rfl q93 (by decide) (by decide) rfl rfl rfl fl_X0_20 rfl rfl rfl rfl rfl (fun h94 hJ94 k94 => ?_)
    refine ev_aload_n rfl rfl rfl ?_
    refine ev_dup rfl rfl rfl ?_
    refine ev_getW (l := (-2147483648)) (u := 2147483647) hJ94.1 rfl rfl rfl fl_X0_23 rfl rfl rfl (fun v95 b95 e95 => ?_)
    refine ev_iconst (v := 1) rfl rfl (by decide) ?_
    refine ev_iaddA rfl rfl (fun v96 g96 => ?_)
    refine ev_putW (l := (-2147483648)) (u := 2147483647) hJ94 rfl (B.any v96) (by decide) (by decide) rfl rfl rfl fl_X0_23 rfl rfl rfl rfl rfl (fun h97 hJ97 k97 => ?_)
    exact ev_vret rfl rfl trivial ⟨rfl, rfl, hJ97⟩
  · refine ev_aald (y := 17) (j := 4) rfl rfl rfl rfl (by unfold vp_in; decide) (by decide) rfl ?_
    refine ev_astore_n rfl rfl rfl rfl ?_
    dsimp only [List.set]
    refine ev_aload_n rfl rfl rfl ?_
    refine ev_iconst (v := 0) rfl rfl (by decide) ?_
    refine ev_aload_n rfl rfl rfl ?_
    refine ev_getW (l := 0) (u := 200) hJ0.1 rfl rfl rfl fl_X0_26 rfl rfl rfl (fun v98 b98 e98 => ?_)
    refine ev_iasK (j := 0) (n := 30) (l := 0) (u := 200) hJ0 (by decide : B 0 0 0) (by decide) (by decide) (by decide) rfl b98 (by decide) (by decide) rfl rfl rfl rfl rfl (fun h99 hJ99 k99 => ?_)
    refine ev_aload_n rfl rfl rfl ?_
    refine ev_iconst (v := 1) rfl rfl (by decide) ?_
    refine ev_aload_n rfl rfl rfl ?_
    refine ev_getW (l := (-2147483648)) (u := 2147483647) hJ99.1 rfl rfl rfl fl_X0_31 rfl rfl rfl (fun v100 b100 e100 => ?_)
    refine ev_iasK (j := 1) (n := 30) (l := (-2147483648)) (u := 2147483647) hJ99 (by decide : B 1 1 1) (by decide) (by decide) (by decide) rfl (B.any v100) (by decide) (by decide) rfl rfl rfl rfl rfl (fun h101 hJ101 k101 => ?_)
    refine ev_aload_n rfl rfl rfl ?_
    refine ev_iconst (v := 2) rfl rfl (by decide) ?_
    refine ev_aload_n rfl rfl rfl ?_
    refine ev_getW (l := (-2147483648)) (u := 2147483647) hJ101.1 rfl rfl rfl fl_X0_34 rfl rfl rfl (fun v102 b102 e102 => ?_)
    refine ev_iasK (j := 2) (n := 30) (l := (-2147483648)) (u := 2147483647) hJ101 (by decide : B 2 2 2) (by decide) (by decide) (by decide) rfl (B.any v102) (by decide) (by decide) rfl rfl rfl rfl rfl (fun h103 hJ103 k103 => ?_)
    refine ev_aload_n rfl rfl rfl ?_
    refine ev_iconst (v := 3) rfl rfl (by decide) ?_
    refine ev_aload_n rfl rfl rfl ?_
    refine ev_getW (l := 0) (u := 200) hJ103.1 rfl rfl rfl fl_X0_37 rfl rfl rfl (fun v104 b104 e104 => ?_)
    refine ev_iasK (j := 3) (n := 30) (l := 0) (u := 200) hJ103 (by decide : B 3 3 3) (by decide) (by decide) (by decide) rfl b104 (by decide) (by decide) rfl rfl rfl rfl rfl (fun h105 hJ105 k105 => ?_)
    refine ev_aload_n rfl rfl rfl ?_
    refine ev_iconst (v := 4) rfl rfl (by decide) ?_
    refine ev_aload_n rfl rfl rfl ?_
    refine ev_getW (l := (-2147483648)) (u := 2147483647) hJ105.1 rfl rfl rfl fl_X0_40 rfl rfl rfl (fun v106 b106 e106 => ?_)
    refine ev_iasK (j := 4) (n := 30) (l := (-2147483648)) (u := 2147483647) hJ105 (by decide : B 4 4 4) (by decide) (by decide) (by decide) rfl (B.any v106) (by decide) (by decide) rfl rfl rfl rfl rfl (fun h107 hJ107 k107 => ?_)
    refine ev_aload_n rfl rfl rfl ?_
    refine ev_iconst (v := 5) rfl rfl (by decide) ?_
    refine ev_aload_n rfl rfl rfl ?_
    refine ev_getW (l := (-2147483648)) (u := 2147483647) hJ107.1 rfl rfl rfl fl_X0_43 rfl rfl rfl (fun v108 b108 e108 => ?_)
    refine ev_iasK (j := 5) (n := 30) (l := (-2147483648)) (u := 2147483647) hJ107 (by decide : B 5 5 5) (by decide) (by decide) (by decide) rfl (B.any v108) (by decide) (by decide) rfl rfl rfl rfl rfl (fun h109 hJ109 k109 => ?_)
    refine ev_aload_n rfl rfl rfl ?_
    refine ev_getR (y := 9) rfl rfl fl_X0_48 rfl rfl rfl rfl ?_
    refine ev_iconst (v := 0) rfl rfl (by decide) ?_
    refine ev_aload_n rfl rfl rfl ?_
    refine ev_bipush (v := 6) rfl rfl (by decide) ?_
    refine ev_bipush (v := 12) rfl rfl (by decide) ?_
    refine ev_cpyW (sN := 0) (dN := 6) (n0 := 12) (n1 := 30) (l := (-2147483648)) (u := 2147483647) (l' := (-2147483648)) (u' := 2147483647) hJ109 (fun _ => rfl) (fun _ => rfl) (by decide) (by decide) (fun _ => rfl) (by decide : B 12 12 12) (by decide) (by decide) (by decide) (by decide) (by decide) (by decide) (by decide) rfl rfl cp_X0_52 rfl rfl rfl rfl rfl rfl (by decide) (fun h110 hJ110 k110 => ?_)
    refine ev_aload_n rfl rfl rfl ?_
    refine ev_getR (y := 10) rfl rfl fl_X0_58 rfl rfl rfl rfl ?_
    refine ev_iconst (v := 0) rfl rfl (by decide) ?_
    refine ev_aload_n rfl rfl rfl ?_
    refine ev_bipush (v := 18) rfl rfl (by decide) ?_
    refine ev_bipush (v := 12) rfl rfl (by decide) ?_
    refine ev_cpyW (sN := 0) (dN := 18) (n0 := 12) (n1 := 30) (l := (-2147483648)) (u := 2147483647) (l' := (-2147483648)) (u' := 2147483647) hJ110 (fun _ => rfl) (fun _ => rfl) (by decide) (by decide) (fun _ => rfl) (by decide : B 12 12 12) (by decide) (by decide) (by decide) (by decide) (by decide) (by decide) (by decide) rfl rfl cp_X0_52 rfl rfl rfl rfl rfl rfl (by decide) (fun h111 hJ111 k111 => ?_)
    refine ev_aload_n rfl rfl rfl ?_
    refine ev_aload_n rfl rfl rfl ?_
    refine ev_getV (v := 4) rfl rfl fl_X0_16 rfl rfl rfl (rd_c k111 (rd_c k110 (rd_a k109 (rd_a k107 (rd_a k105 (rd_a k103 (rd_a k101 (rd_a k99 e1 rfl) rfl) rfl) rfl) rfl) rfl) rfl) rfl) ?_
    refine ev_iconst (v := 1) rfl rfl (by decide) ?_
    refine ev_iaddB (l := 5) (u := 5) rfl rfl (by decide : B 4 4 4) (by decide : B 1 1 1) (by decide) (by decide) (by decide) (by decide) (fun v112 b112 e112 g112 => ?_)
    refine ev_bipush (v := 10) rfl rfl (by decide) ?_
    refine ev_iremB (u := 9) rfl rfl b112 (by decide : B 10 10 10) (by decide) (by decide) (by decide) (by decide) (fun v113 b113 => ?_)
    refine ev_putW (l := 0) (u := 9) hJ111 rfl b113 (by decide) (by decide) rfl rfl rfl fl_X0_16 rfl rfl rfl rfl rfl (fun h114 hJ114 k114 => ?_)
    refine ev_aload_n rfl rfl rfl ?_
    refine ev_bipush (v := 10) rfl rfl (by decide) ?_
    refine ev_aload_n rfl rfl rfl ?_
    refine ev_getW (l := (-2147483648)) (u := 2147483647) hJ114.1 rfl rfl rfl fl_X0_20 rfl rfl rfl (fun v115 b115 e115 => ?_)
    refine ev_iconst (v := 1) rfl rfl (by decide) ?_
    refine ev_iaddA rfl rfl (fun v116 g116 => ?_)
    refine ev_S2P rfl rfl lk_X0_61 st_J9_min_7cf53 rfl rfl (w_min (l := (-2147483648)) (u := 10) (G0 L b) h114 10 v116 (by decide : B 10 10 10) (B.any v116) (by decide) (by decide) (Or.inl (by decide))) (fun r117 q117 => ?_)
    refine ev_putW (l := (-2147483648)) (u := 2147483647) hJ114 rfl q117 (by decide) (by decide) rfl rfl rfl fl_X0_20 rfl rfl rfl rfl rfl (fun h118 hJ118 k118 => ?_)
    refine ev_aload_n rfl rfl rfl ?_
    refine ev_dup rfl rfl rfl ?_
    refine ev_getW (l := (-2147483648)) (u := 2147483647) hJ118.1 rfl rfl rfl fl_X0_23 rfl rfl rfl (fun v119 b119 e119 => ?_)
    refine ev_iconst (v := 1) rfl rfl (by decide) ?_
    refine ev_iaddA rfl rfl (fun v120 g120 => ?_)
    refine ev_putW (l := (-2147483648)) (u := 2147483647) hJ118 rfl (B.any v120) (by decide) (by decide) rfl rfl rfl fl_X0_23 rfl rfl rfl rfl rfl (fun h121 hJ121 k121 => ?_)
    exact ev_vret rfl rfl trivial ⟨rfl, rfl, hJ121⟩
  · refine ev_aald (y := 18) (j := 5) rfl rfl rfl rfl (by unfold vp_in; decide) (by decide) rfl ?_
    refine ev_astore_n rfl rfl rfl rfl ?_
    dsimp only [List.set]
    refine ev_aload_n rfl rfl rfl ?_
    refine ev_iconst (v := 0) rfl rfl (by decide) ?_
    refine ev_aload_n rfl rfl rfl ?_
    refine ev_getW (l := 0) (u := 200) hJ0.1 rfl rfl rfl fl_X0_26 rfl rfl rfl (fun v122 b122 e122 => ?_)
    refine ev_iasK (j := 0) (n := 30) (l := 0) (u := 200) hJ0 (by decide : B 0 0 0) (by decide) (by decide) (by decide) rfl b122 (by decide) (by decide) rfl rfl rfl rfl rfl (fun h123 hJ123 k123 => ?_)
    refine ev_aload_n rfl rfl rfl ?_
    refine ev_iconst (v := 1) rfl rfl (by decide) ?_
    refine ev_aload_n rfl rfl rfl ?_
    refine ev_getW (l := (-2147483648)) (u := 2147483647) hJ123.1 rfl rfl rfl fl_X0_31 rfl rfl rfl (fun v124 b124 e124 => ?_)
    refine ev_iasK (j := 1) (n := 30) (l := (-2147483648)) (u := 2147483647) hJ123 (by decide : B 1 1 1) (by decide) (by decide) (by decide) rfl (B.any v124) (by decide) (by decide) rfl rfl rfl rfl rfl (fun h125 hJ125 k125 => ?_)
    refine ev_aload_n rfl rfl rfl ?_
    refine ev_iconst (v := 2) rfl rfl (by decide) ?_
    refine ev_aload_n rfl rfl rfl ?_
    refine ev_getW (l := (-2147483648)) (u := 2147483647) hJ125.1 rfl rfl rfl fl_X0_34 rfl rfl rfl (fun v126 b126 e126 => ?_)
    refine ev_iasK (j := 2) (n := 30) (l := (-2147483648)) (u := 2147483647) hJ125 (by decide : B 2 2 2) (by decide) (by decide) (by decide) rfl (B.any v126) (by decide) (by decide) rfl rfl rfl rfl rfl (fun h127 hJ127 k127 => ?_)
    refine ev_aload_n rfl rfl rfl ?_
    refine ev_iconst (v := 3) rfl rfl (by decide) ?_
    refine ev_aload_n rfl rfl rfl ?_
    refine ev_getW (l := 0) (u := 200) hJ127.1 rfl rfl rfl fl_X0_37 rfl rfl rfl (fun v128 b128 e128 => ?_)
    refine ev_iasK (j := 3) (n := 30) (l := 0) (u := 200) hJ127 (by decide : B 3 3 3) (by decide) (by decide) (by decide) rfl b128 (by decide) (by decide) rfl rfl rfl rfl rfl (fun h129 hJ129 k129 => ?_)
    refine ev_aload_n rfl rfl rfl ?_
    refine ev_iconst (v := 4) rfl rfl (by decide) ?_
    refine ev_aload_n rfl rfl rfl ?_
    refine ev_getW (l := (-2147483648)) (u := 2147483647) hJ129.1 rfl rfl rfl fl_X0_40 rfl rfl rfl (fun v130 b130 e130 => ?_)
    refine ev_iasK (j := 4) (n := 30) (l := (-2147483648)) (u := 2147483647) hJ129 (by decide : B 4 4 4) (by decide) (by decide) (by decide) rfl (B.any v130) (by decide) (by decide) rfl rfl rfl rfl rfl (fun h131 hJ131 k131 => ?_)
    refine ev_aload_n rfl rfl rfl ?_
    refine ev_iconst (v := 5) rfl rfl (by decide) ?_
    refine ev_aload_n rfl rfl rfl ?_
    refine ev_getW (l := (-2147483648)) (u := 2147483647) hJ131.1 rfl rfl rfl fl_X0_43 rfl rfl rfl (fun v132 b132 e132 => ?_)
    refine ev_iasK (j := 5) (n := 30) (l := (-2147483648)) (u := 2147483647) hJ131 (by decide : B 5 5 5) (by decide) (by decide) (by decide) rfl (B.any v132) (by decide) (by decide) rfl rfl rfl rfl rfl (fun h133 hJ133 k133 => ?_)
    refine ev_aload_n rfl rfl rfl ?_
    refine ev_getR (y := 9) rfl rfl fl_X0_48 rfl rfl rfl rfl ?_
    refine ev_iconst (v := 0) rfl rfl (by decide) ?_
    refine ev_aload_n rfl rfl rfl ?_
    refine ev_bipush (v := 6) rfl rfl (by decide) ?_
    refine ev_bipush (v := 12) rfl rfl (by decide) ?_
    refine ev_cpyW (sN := 0) (dN := 6) (n0 := 12) (n1 := 30) (l := (-2147483648)) (u := 2147483647) (l' := (-2147483648)) (u' := 2147483647) hJ133 (fun _ => rfl) (fun _ => rfl) (by decide) (by decide) (fun _ => rfl) (by decide : B 12 12 12) (by decide) (by decide) (by decide) (by decide) (by decide) (by decide) (by decide) rfl rfl cp_X0_52 rfl rfl rfl rfl rfl rfl (by decide) (fun h134 hJ134 k134 => ?_)
    refine ev_aload_n rfl rfl rfl ?_
    refine ev_getR (y := 10) rfl rfl fl_X0_58 rfl rfl rfl rfl ?_
    refine ev_iconst (v := 0) rfl rfl (by decide) ?_
    refine ev_aload_n rfl rfl rfl ?_
    refine ev_bipush (v := 18) rfl rfl (by decide) ?_
    refine ev_bipush (v := 12) rfl rfl (by decide) ?_
    refine ev_cpyW (sN := 0) (dN := 18) (n0 := 12) (n1 := 30) (l := (-2147483648)) (u := 2147483647) (l' := (-2147483648)) (u' := 2147483647) hJ134 (fun _ => rfl) (fun _ => rfl) (by decide) (by decide) (fun _ => rfl) (by decide : B 12 12 12) (by decide) (by decide) (by decide) (by decide) (by decide) (by decide) (by decide) rfl rfl cp_X0_52 rfl rfl rfl rfl rfl rfl (by decide) (fun h135 hJ135 k135 => ?_)
    refine ev_aload_n rfl rfl rfl ?_
    refine ev_aload_n rfl rfl rfl ?_
    refine ev_getV (v := 5) rfl rfl fl_X0_16 rfl rfl rfl (rd_c k135 (rd_c k134 (rd_a k133 (rd_a k131 (rd_a k129 (rd_a k127 (rd_a k125 (rd_a k123 e1 rfl) rfl) rfl) rfl) rfl) rfl) rfl) rfl) ?_
    refine ev_iconst (v := 1) rfl rfl (by decide) ?_
    refine ev_iaddB (l := 6) (u := 6) rfl rfl (by decide : B 5 5 5) (by decide : B 1 1 1) (by decide) (by decide) (by decide) (by decide) (fun v136 b136 e136 g136 => ?_)
    refine ev_bipush (v := 10) rfl rfl (by decide) ?_
    refine ev_iremB (u := 9) rfl rfl b136 (by decide : B 10 10 10) (by decide) (by decide) (by decide) (by decide) (fun v137 b137 => ?_)
    refine ev_putW (l := 0) (u := 9) hJ135 rfl b137 (by decide) (by decide) rfl rfl rfl fl_X0_16 rfl rfl rfl rfl rfl (fun h138 hJ138 k138 => ?_)
    refine ev_aload_n rfl rfl rfl ?_
    refine ev_bipush (v := 10) rfl rfl (by decide) ?_
    refine ev_aload_n rfl rfl rfl ?_
    refine ev_getW (l := (-2147483648)) (u := 2147483647) hJ138.1 rfl rfl rfl fl_X0_20 rfl rfl rfl (fun v139 b139 e139 => ?_)
    refine ev_iconst (v := 1) rfl rfl (by decide) ?_
    refine ev_iaddA rfl rfl (fun v140 g140 => ?_)
    refine ev_S2P rfl rfl lk_X0_61 st_J9_min_7cf53 rfl rfl (w_min (l := (-2147483648)) (u := 10) (G0 L b) h138 10 v140 (by decide : B 10 10 10) (B.any v140) (by decide) (by decide) (Or.inl (by decide))) (fun r141 q141 => ?_)
    refine ev_putW (l := (-2147483648)) (u := 2147483647) hJ138 rfl q141 (by decide) (by decide) rfl rfl rfl fl_X0_20 rfl rfl rfl rfl rfl (fun h142 hJ142 k142 => ?_)
    refine ev_aload_n rfl rfl rfl ?_
    refine ev_dup rfl rfl rfl ?_
    refine ev_getW (l := (-2147483648)) (u := 2147483647) hJ142.1 rfl rfl rfl fl_X0_23 rfl rfl rfl (fun v143 b143 e143 => ?_)
    refine ev_iconst (v := 1) rfl rfl (by decide) ?_
    refine ev_iaddA rfl rfl (fun v144 g144 => ?_)
    refine ev_putW (l := (-2147483648)) (u := 2147483647) hJ142 rfl (B.any v144) (by decide) (by decide) rfl rfl rfl fl_X0_23 rfl rfl rfl rfl rfl (fun h145 hJ145 k145 => ?_)
    exact ev_vret rfl rfl trivial ⟨rfl, rfl, hJ145⟩
  · refine ev_aald (y := 19) (j := 6) rfl rfl rfl rfl (by unfold vp_in; decide) (by decide) rfl ?_
    refine ev_astore_n rfl rfl rfl rfl ?_
    dsimp only [List.set]
    refine ev_aload_n rfl rfl rfl ?_
    refine ev_iconst (v := 0) rfl rfl (by decide) ?_
    refine ev_aload_n rfl rfl rfl ?_
    refine ev_getW (l := 0) (u := 200) hJ0.1 rfl rfl rfl fl_X0_26 rfl rfl rfl (fun v146 b146 e146 => ?_)
    refine ev_iasK (j := 0) (n := 30) (l := 0) (u := 200) hJ0 (by decide : B 0 0 0) (by decide) (by decide) (by decide) rfl b146 (by decide) (by decide) rfl rfl rfl rfl rfl (fun h147 hJ147 k147 => ?_)
    refine ev_aload_n rfl rfl rfl ?_
    refine ev_iconst (v := 1) rfl rfl (by decide) ?_
    refine ev_aload_n rfl rfl rfl ?_
    refine ev_getW (l := (-2147483648)) (u := 2147483647) hJ147.1 rfl rfl rfl fl_X0_31 rfl rfl rfl (fun v148 b148 e148 => ?_)
    refine ev_iasK (j := 1) (n := 30) (l := (-2147483648)) (u := 2147483647) hJ147 (by decide : B 1 1 1) (by decide) (by decide) (by decide) rfl (B.any v148) (by decide) (by decide) rfl rfl rfl rfl rfl (fun h149 hJ149 k149 => ?_)
    refine ev_aload_n rfl rfl rfl ?_
    refine ev_iconst (v := 2) rfl rfl (by decide) ?_
    refine ev_aload_n rfl rfl rfl ?_
    refine ev_getW (l := (-2147483648)) (u := 2147483647) hJ149.1 rfl rfl rfl fl_X0_34 rfl rfl rfl (fun v150 b150 e150 => ?_)
    refine ev_iasK (j := 2) (n := 30) (l := (-2147483648)) (u := 2147483647) hJ149 (by decide : B 2 2 2) (by decide) (by decide) (by decide) rfl (B.any v150) (by decide) (by decide) rfl rfl rfl rfl rfl (fun h151 hJ151 k151 => ?_)
    refine ev_aload_n rfl rfl rfl ?_
    refine ev_iconst (v := 3) rfl rfl (by decide) ?_
    refine ev_aload_n rfl rfl rfl ?_
    refine ev_getW (l := 0) (u := 200) hJ151.1 rfl rfl rfl fl_X0_37 rfl rfl rfl (fun v152 b152 e152 => ?_)
    refine ev_iasK (j := 3) (n := 30) (l := 0) (u := 200) hJ151 (by decide : B 3 3 3) (by decide) (by decide) (by decide) rfl b152 (by decide) (by decide) rfl rfl rfl rfl rfl (fun h153 hJ153 k153 => ?_)
    refine ev_aload_n rfl rfl rfl ?_
    refine ev_iconst (v := 4) rfl rfl (by decide) ?_
    refine ev_aload_n rfl rfl rfl ?_
    refine ev_getW (l := (-2147483648)) (u := 2147483647) hJ153.1 rfl rfl rfl fl_X0_40 rfl rfl rfl (fun v154 b154 e154 => ?_)
    refine ev_iasK (j := 4) (n := 30) (l := (-2147483648)) (u := 2147483647) hJ153 (by decide : B 4 4 4) (by decide) (by decide) (by decide) rfl (B.any v154) (by decide) (by decide) rfl rfl rfl rfl rfl (fun h155 hJ155 k155 => ?_)
    refine ev_aload_n rfl rfl rfl ?_
    refine ev_iconst (v := 5) rfl rfl (by decide) ?_
    refine ev_aload_n rfl rfl rfl ?_
    refine ev_getW (l := (-2147483648)) (u := 2147483647) hJ155.1 rfl rfl rfl fl_X0_43 rfl rfl rfl (fun v156 b156 e156 => ?_)
    refine ev_iasK (j := 5) (n := 30) (l := (-2147483648)) (u := 2147483647) hJ155 (by decide : B 5 5 5) (by decide) (by decide) (by decide) rfl (B.any v156) (by decide) (by decide) rfl rfl rfl rfl rfl (fun h157 hJ157 k157 => ?_)
    refine ev_aload_n rfl rfl rfl ?_
    refine ev_getR (y := 9) rfl rfl fl_X0_48 rfl rfl rfl rfl ?_
    refine ev_iconst (v := 0) rfl rfl (by decide) ?_
    refine ev_aload_n rfl rfl rfl ?_
    refine ev_bipush (v := 6) rfl rfl (by decide) ?_
    refine ev_bipush (v := 12) rfl rfl (by decide) ?_
    refine ev_cpyW (sN := 0) (dN := 6) (n0 := 12) (n1 := 30) (l := (-2147483648)) (u := 2147483647) (l' := (-2147483648)) (u' := 2147483647) hJ157 (fun _ => rfl) (fun _ => rfl) (by decide) (by decide) (fun _ => rfl) (by decide : B 12 12 12) (by decide) (by decide) (by decide) (by decide) (by decide) (by decide) (by decide) rfl rfl cp_X0_52 rfl rfl rfl rfl rfl rfl (by decide) (fun h158 hJ158 k158 => ?_)
    refine ev_aload_n rfl rfl rfl ?_
    refine ev_getR (y := 10) rfl rfl fl_X0_58 rfl rfl rfl rfl ?_
    refine ev_iconst (v := 0) rfl rfl (by decide) ?_
    refine ev_aload_n rfl rfl rfl ?_
    refine ev_bipush (v := 18) rfl rfl (by decide) ?_
    refine ev_bipush (v := 12) rfl rfl (by decide) ?_
    refine ev_cpyW (sN := 0) (dN := 18) (n0 := 12) (n1 := 30) (l := (-2147483648)) (u := 2147483647) (l' := (-2147483648)) (u' := 2147483647) hJ158 (fun _ => rfl) (fun _ => rfl) (by decide) (by decide) (fun _ => rfl) (by decide : B 12 12 12) (by decide) (by decide) (by decide) (by decide) (by decide) (by decide) (by decide) rfl rfl cp_X0_52 rfl rfl rfl rfl rfl rfl (by decide) (fun h159 hJ159 k159 => ?_)
    refine ev_aload_n rfl rfl rfl ?_
    refine ev_aload_n rfl rfl rfl ?_
    refine ev_getV (v := 6) rfl rfl fl_X0_16 rfl rfl rfl (rd_c k159 (rd_c k158 (rd_a k157 (rd_a k155 (rd_a k153 (rd_a k151 (rd_a k149 (rd_a k147 e1 rfl) rfl) rfl) rfl) rfl) rfl) rfl) rfl) ?_
    refine ev_iconst (v := 1) rfl rfl (by decide) ?_
    refine ev_iaddB (l := 7) (u := 7) rfl rfl (by decide : B 6 6 6) (by decide : B 1 1 1) (by decide) (by decide) (by decide) (by decide) (fun v160 b160 e160 g160 => ?_)
    refine ev_bipush (v := 10) rfl rfl (by decide) ?_
    refine ev_iremB (u := 9) rfl rfl b160 (by decide : B 10 10 10) (by decide) (by decide) (by decide) (by decide) (fun v161 b161 => ?_)
    refine ev_putW (l := 0) (u := 9) hJ159 rfl b161 (by decide) (by decide) rfl rfl rfl fl_X0_16 rfl rfl rfl rfl rfl (fun h162 hJ162 k162 => ?_)
    refine ev_aload_n rfl rfl rfl ?_
    refine ev_bipush (v := 10) rfl rfl (by decide) ?_
    refine ev_aload_n rfl rfl rfl ?_
    refine ev_getW (l := (-2147483648)) (u := 2147483647) hJ162.1 rfl rfl rfl fl_X0_20 rfl rfl rfl (fun v163 b163 e163 => ?_)
    refine ev_iconst (v := 1) rfl rfl (by decide) ?_
    refine ev_iaddA rfl rfl (fun v164 g164 => ?_)
    refine ev_S2P rfl rfl lk_X0_61 st_J9_min_7cf53 rfl rfl (w_min (l := (-2147483648)) (u := 10) (G0 L b) h162 10 v164 (by decide : B 10 10 10) (B.any v164) (by decide) (by decide) (Or.inl (by decide))) (fun r165 q165 => ?_)
    refine ev_putW (l := (-2147483648)) (u := 2147483647) hJ162 rfl q165 (by decide) (by decide) rfl rfl rfl fl_X0_20 rfl rfl rfl rfl rfl (fun h166 hJ166 k166 => ?_)
    refine ev_aload_n rfl rfl rfl ?_
    refine ev_dup rfl rfl rfl ?_
    refine ev_getW (l := (-2147483648)) (u := 2147483647) hJ166.1 rfl rfl rfl fl_X0_23 rfl rfl rfl (fun v167 b167 e167 => ?_)
    refine ev_iconst (v := 1) rfl rfl (by decide) ?_
    refine ev_iaddA rfl rfl (fun v168 g168 => ?_)
    refine ev_putW (l := (-2147483648)) (u := 2147483647) hJ166 rfl (B.any v168) (by decide) (by decide) rfl rfl rfl fl_X0_23 rfl rfl rfl rfl rfl (fun h169 hJ169 k169 => ?_)
    exact ev_vret rfl rfl trivial ⟨rfl, rfl, hJ169⟩
  · refine ev_aald (y := 20) (j := 7) rfl rfl rfl rfl (by unfold vp_in; decide) (by decide) rfl ?_
    refine ev_astore_n rfl rfl rfl rfl ?_
    dsimp only [List.set]
    refine ev_aload_n rfl rfl rfl ?_
    refine ev_iconst (v := 0) rfl rfl (by decide) ?_
    refine ev_aload_n rfl rfl rfl ?_
    refine ev_getW (l := 0) (u := 200) hJ0.1 rfl rfl rfl fl_X0_26 rfl rfl rfl (fun v170 b170 e170 => ?_)
    refine ev_iasK (j := 0) (n := 30) (l := 0) (u := 200) hJ0 (by decide : B 0 0 0) (by decide) (by decide) (by decide) rfl b170 (by decide) (by decide) rfl rfl rfl rfl rfl (fun h171 hJ171 k171 => ?_)
    refine ev_aload_n rfl rfl rfl ?_
    refine ev_iconst (v := 1) rfl rfl (by decide) ?_
    refine ev_aload_n rfl rfl rfl ?_
    refine ev_getW (l := (-2147483648)) (u := 2147483647) hJ171.1 rfl rfl rfl fl_X0_31 rfl rfl rfl (fun v172 b172 e172 => ?_)
    refine ev_iasK (j := 1) (n := 30) (l := (-2147483648)) (u := 2147483647) hJ171 (by decide : B 1 1 1) (by decide) (by decide) (by decide) rfl (B.any v172) (by decide) (by decide) rfl rfl rfl rfl rfl (fun h173 hJ173 k173 => ?_)
    refine ev_aload_n rfl rfl rfl ?_
    refine ev_iconst (v := 2) rfl rfl (by decide) ?_
    refine ev_aload_n rfl rfl rfl ?_
    refine ev_getW (l := (-2147483648)) (u := 2147483647) hJ173.1 rfl rfl rfl fl_X0_34 rfl rfl rfl (fun v174 b174 e174 => ?_)
    refine ev_iasK (j := 2) (n := 30) (l := (-2147483648)) (u := 2147483647) hJ173 (by decide : B 2 2 2) (by decide) (by decide) (by decide) rfl (B.any v174) (by decide) (by decide) rfl rfl rfl rfl rfl (fun h175 hJ175 k175 => ?_)
    refine ev_aload_n rfl rfl rfl ?_
    refine ev_iconst (v := 3) rfl rfl (by decide) ?_
    refine ev_aload_n rfl rfl rfl ?_
    refine ev_getW (l := 0) (u := 200) hJ175.1 rfl rfl rfl fl_X0_37 rfl rfl rfl (fun v176 b176 e176 => ?_)
    refine ev_iasK (j := 3) (n := 30) (l := 0) (u := 200) hJ175 (by decide : B 3 3 3) (by decide) (by decide) (by decide) rfl b176 (by decide) (by decide) rfl rfl rfl rfl rfl (fun h177 hJ177 k177 => ?_)
    refine ev_aload_n rfl rfl rfl ?_
    refine ev_iconst (v := 4) rfl rfl (by decide) ?_
    refine ev_aload_n rfl rfl rfl ?_
    refine ev_getW (l := (-2147483648)) (u := 2147483647) hJ177.1 rfl rfl rfl fl_X0_40 rfl rfl rfl (fun v178 b178 e178 => ?_)
    refine ev_iasK (j := 4) (n := 30) (l := (-2147483648)) (u := 2147483647) hJ177 (by decide : B 4 4 4) (by decide) (by decide) (by decide) rfl (B.any v178) (by decide) (by decide) rfl rfl rfl rfl rfl (fun h179 hJ179 k179 => ?_)
    refine ev_aload_n rfl rfl rfl ?_
    refine ev_iconst (v := 5) rfl rfl (by decide) ?_
    refine ev_aload_n rfl rfl rfl ?_
    refine ev_getW (l := (-2147483648)) (u := 2147483647) hJ179.1 rfl rfl rfl fl_X0_43 rfl rfl rfl (fun v180 b180 e180 => ?_)
    refine ev_iasK (j := 5) (n := 30) (l := (-2147483648)) (u := 2147483647) hJ179 (by decide : B 5 5 5) (by decide) (by decide) (by decide) rfl (B.any v180) (by decide) (by decide) rfl rfl rfl rfl rfl (fun h181 hJ181 k181 => ?_)
    refine ev_aload_n rfl rfl rfl ?_
    refine ev_getR (y := 9) rfl rfl fl_X0_48 rfl rfl rfl rfl ?_
    refine ev_iconst (v := 0) rfl rfl (by decide) ?_
    refine ev_aload_n rfl rfl rfl ?_
    refine ev_bipush (v := 6) rfl rfl (by decide) ?_
    refine ev_bipush (v := 12) rfl rfl (by decide) ?_
    refine ev_cpyW (sN := 0) (dN := 6) (n0 := 12) (n1 := 30) (l := (-2147483648)) (u := 2147483647) (l' := (-2147483648)) (u' := 2147483647) hJ181 (fun _ => rfl) (fun _ => rfl) (by decide) (by decide) (fun _ => rfl) (by decide : B 12 12 12) (by decide) (by decide) (by decide) (by decide) (by decide) (by decide) (by decide) rfl rfl cp_X0_52 rfl rfl rfl rfl rfl rfl (by decide) (fun h182 hJ182 k182 => ?_)
    refine ev_aload_n rfl rfl rfl ?_
    refine ev_getR (y := 10) rfl rfl fl_X0_58 rfl rfl rfl rfl ?_
    refine ev_iconst (v := 0) rfl rfl (by decide) ?_
    refine ev_aload_n rfl rfl rfl ?_
    refine ev_bipush (v := 18) rfl rfl (by decide) ?_
    refine ev_bipush (v := 12) rfl rfl (by decide) ?_
    refine ev_cpyW (sN := 0) (dN := 18) (n0 := 12) (n1 := 30) (l := (-2147483648)) (u := 2147483647) (l' := (-2147483648)) (u' := 2147483647) hJ182 (fun _ => rfl) (fun _ => rfl) (by decide) (by decide) (fun _ => rfl) (by decide : B 12 12 12) (by decide) (by decide) (by decide) (by decide) (by decide) (by decide) (by decide) rfl rfl cp_X0_52 rfl rfl rfl rfl rfl rfl (by decide) (fun h183 hJ183 k183 => ?_)
    refine ev_aload_n rfl rfl rfl ?_
    refine ev_aload_n rfl rfl rfl ?_
    refine ev_getV (v := 7) rfl rfl fl_X0_16 rfl rfl rfl (rd_c k183 (rd_c k182 (rd_a k181 (rd_a k179 (rd_a k177 (rd_a k175 (rd_a k173 (rd_a k171 e1 rfl) rfl) rfl) rfl) rfl) rfl) rfl) rfl) ?_
    refine ev_iconst (v := 1) rfl rfl (by decide) ?_
    refine ev_iaddB (l := 8) (u := 8) rfl rfl (by decide : B 7 7 7) (by decide : B 1 1 1) (by decide) (by decide) (by decide) (by decide) (fun v184 b184 e184 g184 => ?_)
    refine ev_bipush (v := 10) rfl rfl (by decide) ?_
    refine ev_iremB (u := 9) rfl rfl b184 (by decide : B 10 10 10) (by decide) (by decide) (by decide) (by decide) (fun v185 b185 => ?_)
    refine ev_putW (l := 0) (u := 9) hJ183 rfl b185 (by decide) (by decide) rfl rfl rfl fl_X0_16 rfl rfl rfl rfl rfl (fun h186 hJ186 k186 => ?_)
    refine ev_aload_n rfl rfl rfl ?_
    refine ev_bipush (v := 10) rfl rfl (by decide) ?_
    refine ev_aload_n rfl rfl rfl ?_
    refine ev_getW (l := (-2147483648)) (u := 2147483647) hJ186.1 rfl rfl rfl fl_X0_20 rfl rfl rfl (fun v187 b187 e187 => ?_)
    refine ev_iconst (v := 1) rfl rfl (by decide) ?_
    refine ev_iaddA rfl rfl (fun v188 g188 => ?_)
    refine ev_S2P rfl rfl lk_X0_61 st_J9_min_7cf53 rfl rfl (w_min (l := (-2147483648)) (u := 10) (G0 L b) h186 10 v188 (by decide : B 10 10 10) (B.any v188) (by decide) (by decide) (Or.inl (by decide))) (fun r189 q189 => ?_)
    refine ev_putW (l := (-2147483648)) (u := 2147483647) hJ186 rfl q189 (by decide) (by decide) rfl rfl rfl fl_X0_20 rfl rfl rfl rfl rfl (fun h190 hJ190 k190 => ?_)
    refine ev_aload_n rfl rfl rfl ?_
    refine ev_dup rfl rfl rfl ?_
    refine ev_getW (l := (-2147483648)) (u := 2147483647) hJ190.1 rfl rfl rfl fl_X0_23 rfl rfl rfl (fun v191 b191 e191 => ?_)
    refine ev_iconst (v := 1) rfl rfl (by decide) ?_
    refine ev_iaddA rfl rfl (fun v192 g192 => ?_)
    refine ev_putW (l := (-2147483648)) (u := 2147483647) hJ190 rfl (B.any v192) (by decide) (by decide) rfl rfl rfl fl_X0_23 rfl rfl rfl rfl rfl (fun h193 hJ193 k193 => ?_)
    exact ev_vret rfl rfl trivial ⟨rfl, rfl, hJ193⟩
  · refine ev_aald (y := 21) (j := 8) rfl rfl rfl rfl (by unfold vp_in; decide) (by decide) rfl ?_
    refine ev_astore_n rfl rfl rfl rfl ?_
    dsimp only [List.set]
    refine ev_aload_n rfl rfl rfl ?_
    refine ev_iconst (v := 0) rfl rfl (by decide) ?_
    refine ev_aload_n rfl rfl rfl ?_
    refine ev_getW (l := 0) (u := 200) hJ0.1 rfl rfl rfl fl_X0_26 rfl rfl rfl (fun v194 b194 e194 => ?_)
    refine ev_iasK (j := 0) (n := 30) (l := 0) (u := 200) hJ0 (by decide : B 0 0 0) (by decide) (by decide) (by decide) rfl b194 (by decide) (by decide) rfl rfl rfl rfl rfl (fun h195 hJ195 k195 => ?_)
    refine ev_aload_n rfl rfl rfl ?_
    refine ev_iconst (v := 1) rfl rfl (by decide) ?_
    refine ev_aload_n rfl rfl rfl ?_
    refine ev_getW (l := (-2147483648)) (u := 2147483647) hJ195.1 rfl rfl rfl fl_X0_31 rfl rfl rfl (fun v196 b196 e196 => ?_)
    refine ev_iasK (j := 1) (n := 30) (l := (-2147483648)) (u := 2147483647) hJ195 (by decide : B 1 1 1) (by decide) (by decide) (by decide) rfl (B.any v196) (by decide) (by decide) rfl rfl rfl rfl rfl (fun h197 hJ197 k197 => ?_)
    refine ev_aload_n rfl rfl rfl ?_
    refine ev_iconst (v := 2) rfl rfl (by decide) ?_
    refine ev_aload_n rfl rfl rfl ?_
    refine ev_getW (l := (-2147483648)) (u := 2147483647) hJ197.1 rfl rfl rfl fl_X0_34 rfl rfl rfl (fun v198 b198 e198 => ?_)
    refine ev_iasK (j := 2) (n := 30) (l := (-2147483648)) (u := 2147483647) hJ197 (by decide : B 2 2 2) (by decide) (by decide) (by decide) rfl (B.any v198) (by decide) (by decide) rfl rfl rfl rfl rfl (fun h199 hJ199 k199 => ?_)
    refine ev_aload_n rfl rfl rfl ?_
    refine ev_iconst (v := 3) rfl rfl (by decide) ?_
    refine ev_aload_n rfl rfl rfl ?_
    refine ev_getW (l := 0) (u := 200) hJ199.1 rfl rfl rfl fl_X0_37 rfl rfl rfl (fun v200 b200 e200 => ?_)
    refine ev_iasK (j := 3) (n := 30) (l := 0) (u := 200) hJ199 (by decide : B 3 3 3) (by decide) (by decide) (by decide) rfl b200 (by decide) (by decide) rfl rfl rfl rfl rfl (fun h201 hJ201 k201 => ?_)
    refine ev_aload_n rfl rfl rfl ?_
    refine ev_iconst (v := 4) rfl rfl (by decide) ?_
    refine ev_aload_n rfl rfl rfl ?_
    refine ev_getW (l := (-2147483648)) (u := 2147483647) hJ201.1 rfl rfl rfl fl_X0_40 rfl rfl rfl (fun v202 b202 e202 => ?_)
    refine ev_iasK (j := 4) (n := 30) (l := (-2147483648)) (u := 2147483647) hJ201 (by decide : B 4 4 4) (by decide) (by decide) (by decide) rfl (B.any v202) (by decide) (by decide) rfl rfl rfl rfl rfl (fun h203 hJ203 k203 => ?_)
    refine ev_aload_n rfl rfl rfl ?_
    refine ev_iconst (v := 5) rfl rfl (by decide) ?_
    refine ev_aload_n rfl rfl rfl ?_
    refine ev_getW (l := (-2147483648)) (u := 2147483647) hJ203.1 rfl rfl rfl fl_X0_43 rfl rfl rfl (fun v204 b204 e204 => ?_)
    refine ev_iasK (j := 5) (n := 30) (l := (-2147483648)) (u := 2147483647) hJ203 (by decide : B 5 5 5) (by decide) (by decide) (by decide) rfl (B.any v204) (by decide) (by decide) rfl rfl rfl rfl rfl (fun h205 hJ205 k205 => ?_)
    refine ev_aload_n rfl rfl rfl ?_
    refine ev_getR (y := 9) rfl rfl fl_X0_48 rfl rfl rfl rfl ?_
    refine ev_iconst (v := 0) rfl rfl (by decide) ?_
    refine ev_aload_n rfl rfl rfl ?_
    refine ev_bipush (v := 6) rfl rfl (by decide) ?_
    refine ev_bipush (v := 12) rfl rfl (by decide) ?_
    refine ev_cpyW (sN := 0) (dN := 6) (n0 := 12) (n1 := 30) (l := (-2147483648)) (u := 2147483647) (l' := (-2147483648)) (u' := 2147483647) hJ205 (fun _ => rfl) (fun _ => rfl) (by decide) (by decide) (fun _ => rfl) (by decide : B 12 12 12) (by decide) (by decide) (by decide) (by decide) (by decide) (by decide) (by decide) rfl rfl cp_X0_52 rfl rfl rfl rfl rfl rfl (by decide) (fun h206 hJ206 k206 => ?_)
    refine ev_aload_n rfl rfl rfl ?_
    refine ev_getR (y := 10) rfl rfl fl_X0_58 rfl rfl rfl rfl ?_
    refine ev_iconst (v := 0) rfl rfl (by decide) ?_
    refine ev_aload_n rfl rfl rfl ?_
    refine ev_bipush (v := 18) rfl rfl (by decide) ?_
    refine ev_bipush (v := 12) rfl rfl (by decide) ?_
    refine ev_cpyW (sN := 0) (dN := 18) (n0 := 12) (n1 := 30) (l := (-2147483648)) (u := 2147483647) (l' := (-2147483648)) (u' := 2147483647) hJ206 (fun _ => rfl) (fun _ => rfl) (by decide) (by decide) (fun _ => rfl) (by decide : B 12 12 12) (by decide) (by decide) (by decide) (by decide) (by decide) (by decide) (by decide) rfl rfl cp_X0_52 rfl rfl rfl rfl rfl rfl (by decide) (fun h207 hJ207 k207 => ?_)
    refine ev_aload_n rfl rfl rfl ?_
    refine ev_aload_n rfl rfl rfl ?_
    refine ev_getV (v := 8) rfl rfl fl_X0_16 rfl rfl rfl (rd_c k207 (rd_c k206 (rd_a k205 (rd_a k203 (rd_a k201 (rd_a k199 (rd_a k197 (rd_a k195 e1 rfl) rfl) rfl) rfl) rfl) rfl) rfl) rfl) ?_
    refine ev_iconst (v := 1) rfl rfl (by decide) ?_
    refine ev_iaddB (l := 9) (u := 9) rfl rfl (by decide : B 8 8 8) (by decide : B 1 1 1) (by decide) (by decide) (by decide) (by decide) (fun v208 b208 e208 g208 => ?_)
    refine ev_bipush (v := 10) rfl rfl (by decide) ?_
    refine ev_iremB (u := 9) rfl rfl b208 (by decide : B 10 10 10) (by decide) (by decide) (by decide) (by decide) (fun v209 b209 => ?_)
    refine ev_putW (l := 0) (u := 9) hJ207 rfl b209 (by decide) (by decide) rfl rfl rfl fl_X0_16 rfl rfl rfl rfl rfl (fun h210 hJ210 k210 => ?_)
    refine ev_aload_n rfl rfl rfl ?_
    refine ev_bipush (v := 10) rfl rfl (by decide) ?_
    refine ev_aload_n rfl rfl rfl ?_
    refine ev_getW (l := (-2147483648)) (u := 2147483647) hJ210.1 rfl rfl rfl fl_X0_20 rfl rfl rfl (fun v211 b211 e211 => ?_)
    refine ev_iconst (v := 1) rfl rfl (by decide) ?_
    refine ev_iaddA rfl rfl (fun v212 g212 => ?_)
    refine ev_S2P rfl rfl lk_X0_61 st_J9_min_7cf53 rfl rfl (w_min (l := (-2147483648)) (u := 10) (G0 L b) h210 10 v212 (by decide : B 10 10 10) (B.any v212) (by decide) (by decide) (Or.inl (by decide))) (fun r213 q213 => ?_)
    refine ev_putW (l := (-2147483648)) (u := 2147483647) hJ210 rfl q213 (by decide) (by decide) rfl rfl rfl fl_X0_20 rfl rfl rfl rfl rfl (fun h214 hJ214 k214 => ?_)
    refine ev_aload_n rfl rfl rfl ?_
    refine ev_dup rfl rfl rfl ?_
    refine ev_getW (l := (-2147483648)) (u := 2147483647) hJ214.1 rfl rfl rfl fl_X0_23 rfl rfl rfl (fun v215 b215 e215 => ?_)
    refine ev_iconst (v := 1) rfl rfl (by decide) ?_
    refine ev_iaddA rfl rfl (fun v216 g216 => ?_)
    refine ev_putW (l := (-2147483648)) (u := 2147483647) hJ214 rfl (B.any v216) (by decide) (by decide) rfl rfl rfl fl_X0_23 rfl rfl rfl rfl rfl (fun h217 hJ217 k217 => ?_)
    exact ev_vret rfl rfl trivial ⟨rfl, rfl, hJ217⟩
  · refine ev_aald (y := 22) (j := 9) rfl rfl rfl rfl (by unfold vp_in; decide) (by decide) rfl ?_
    refine ev_astore_n rfl rfl rfl rfl ?_
    dsimp only [List.set]
    refine ev_aload_n rfl rfl rfl ?_
    refine ev_iconst (v := 0) rfl rfl (by decide) ?_
    refine ev_aload_n rfl rfl rfl ?_
    refine ev_getW (l := 0) (u := 200) hJ0.1 rfl rfl rfl fl_X0_26 rfl rfl rfl (fun v218 b218 e218 => ?_)
    refine ev_iasK (j := 0) (n := 30) (l := 0) (u := 200) hJ0 (by decide : B 0 0 0) (by decide) (by decide) (by decide) rfl b218 (by decide) (by decide) rfl rfl rfl rfl rfl (fun h219 hJ219 k219 => ?_)
    refine ev_aload_n rfl rfl rfl ?_
    refine ev_iconst (v := 1) rfl rfl (by decide) ?_
    refine ev_aload_n rfl rfl rfl ?_
    refine ev_getW (l := (-2147483648)) (u := 2147483647) hJ219.1 rfl rfl rfl fl_X0_31 rfl rfl rfl (fun v220 b220 e220 => ?_)
    refine ev_iasK (j := 1) (n := 30) (l := (-2147483648)) (u := 2147483647) hJ219 (by decide : B 1 1 1) (by decide) (by decide) (by decide) rfl (B.any v220) (by decide) (by decide) rfl rfl rfl rfl rfl (fun h221 hJ221 k221 => ?_)
    refine ev_aload_n rfl rfl rfl ?_
    refine ev_iconst (v := 2) rfl rfl (by decide) ?_
    refine ev_aload_n rfl rfl rfl ?_
    refine ev_getW (l := (-2147483648)) (u := 2147483647) hJ221.1 rfl rfl rfl fl_X0_34 rfl rfl rfl (fun v222 b222 e222 => ?_)
    refine ev_iasK (j := 2) (n := 30) (l := (-2147483648)) (u := 2147483647) hJ221 (by decide : B 2 2 2) (by decide) (by decide) (by decide) rfl (B.any v222) (by decide) (by decide) rfl rfl rfl rfl rfl (fun h223 hJ223 k223 => ?_)
    refine ev_aload_n rfl rfl rfl ?_
    refine ev_iconst (v := 3) rfl rfl (by decide) ?_
    refine ev_aload_n rfl rfl rfl ?_
    refine ev_getW (l := 0) (u := 200) hJ223.1 rfl rfl rfl fl_X0_37 rfl rfl rfl (fun v224 b224 e224 => ?_)
    refine ev_iasK (j := 3) (n := 30) (l := 0) (u := 200) hJ223 (by decide : B 3 3 3) (by decide) (by decide) (by decide) rfl b224 (by decide) (by decide) rfl rfl rfl rfl rfl (fun h225 hJ225 k225 => ?_)
    refine ev_aload_n rfl rfl rfl ?_
    refine ev_iconst (v := 4) rfl rfl (by decide) ?_
    refine ev_aload_n rfl rfl rfl ?_
    refine ev_getW (l := (-2147483648)) (u := 2147483647) hJ225.1 rfl rfl rfl fl_X0_40 rfl rfl rfl (fun v226 b226 e226 => ?_)
    refine ev_iasK (j := 4) (n := 30) (l := (-2147483648)) (u := 2147483647) hJ225 (by decide : B 4 4 4) (by decide) (by decide) (by decide) rfl (B.any v226) (by decide) (by decide) rfl rfl rfl rfl rfl (fun h227 hJ227 k227 => ?_)
    refine ev_aload_n rfl rfl rfl ?_
    refine ev_iconst (v := 5) rfl rfl (by decide) ?_
    refine ev_aload_n rfl rfl rfl ?_
    refine ev_getW (l := (-2147483648)) (u := 2147483647) hJ227.1 rfl rfl rfl fl_X0_43 rfl rfl rfl (fun v228 b228 e228 => ?_)
    refine ev_iasK (j := 5) (n := 30) (l := (-2147483648)) (u := 2147483647) hJ227 (by decide : B 5 5 5) (by decide) (by decide) (by decide) rfl (B.any v228) (by decide) (by decide) rfl rfl rfl rfl rfl (fun h229 hJ229 k229 => ?_)
    refine ev_aload_n rfl rfl rfl ?_
    refine ev_getR (y := 9) rfl rfl fl_X0_48 rfl rfl rfl rfl ?_
    refine ev_iconst (v := 0) rfl rfl (by decide) ?_
    refine ev_aload_n rfl rfl rfl ?_
    refine ev_bipush (v := 6) rfl rfl (by decide) ?_
    refine ev_bipush (v := 12) rfl rfl (by decide) ?_
    refine ev_cpyW (sN := 0) (dN := 6) (n0 := 12) (n1 := 30) (l := (-2147483648)) (u := 2147483647) (l' := (-2147483648)) (u' := 2147483647) hJ229 (fun _ => rfl) (fun _ => rfl) (by decide) (by decide) (fun _ => rfl) (by decide : B 12 12 12) (by decide) (by decide) (by decide) (by decide) (by decide) (by decide) (by decide) rfl rfl cp_X0_52 rfl rfl rfl rfl rfl rfl (by decide) (fun h230 hJ230 k230 => ?_)
    refine ev_aload_n rfl rfl rfl ?_
    refine ev_getR (y := 10) rfl rfl fl_X0_58 rfl rfl rfl rfl ?_
    refine ev_iconst (v := 0) rfl rfl (by decide) ?_
    refine ev_aload_n rfl rfl rfl ?_
    refine ev_bipush (v := 18) rfl rfl (by decide) ?_
    refine ev_bipush (v := 12) rfl rfl (by decide) ?_
    refine ev_cpyW (sN := 0) (dN := 18) (n0 := 12) (n1 := 30) (l := (-2147483648)) (u := 2147483647) (l' := (-2147483648)) (u' := 2147483647) hJ230 (fun _ => rfl) (fun _ => rfl) (by decide) (by decide) (fun _ => rfl) (by decide : B 12 12 12) (by decide) (by decide) (by decide) (by decide) (by decide) (by decide) (by decide) rfl rfl cp_X0_52 rfl rfl rfl rfl rfl rfl (by decide) (fun h231 hJ231 k231 => ?_)
    refine ev_aload_n rfl rfl rfl ?_
    refine ev_aload_n rfl rfl rfl ?_
    refine ev_getV (v := 9) rfl rfl fl_X0_16 rfl rfl rfl (rd_c k231 (rd_c k230 (rd_a k229 (rd_a k227 (rd_a k225 (rd_a k223 (rd_a k221 (rd_a k219 e1 rfl) rfl) rfl) rfl) rfl) rfl) rfl) rfl) ?_
    refine ev_iconst (v := 1) rfl rfl (by decide) ?_
    refine ev_iaddB (l := 10) (u := 10) rfl rfl (by decide : B 9 9 9) (by decide : B 1 1 1) (by decide) (by decide) (by decide) (by decide) (fun v232 b232 e232 g232 => ?_)
    refine ev_bipush (v := 10) rfl rfl (by decide) ?_
    refine ev_iremB (u := 9) rfl rfl b232 (by decide : B 10 10 10) (by decide) (by decide) (by decide) (by decide) (fun v233 b233 => ?_)
    refine ev_putW (l := 0) (u := 9) hJ231 rfl b233 (by decide) (by decide) rfl rfl rfl fl_X0_16 rfl rfl rfl rfl rfl (fun h234 hJ234 k234 => ?_)
    refine ev_aload_n rfl rfl rfl ?_
    refine ev_bipush (v := 10) rfl rfl (by decide) ?_
    refine ev_aload_n rfl rfl rfl ?_
    refine ev_getW (l := (-2147483648)) (u := 2147483647) hJ234.1 rfl rfl rfl fl_X0_20 rfl rfl rfl (fun v235 b235 e235 => ?_)
    refine ev_iconst (v := 1) rfl rfl (by decide) ?_
    refine ev_iaddA rfl rfl (fun v236 g236 => ?_)
    refine ev_S2P rfl rfl lk_X0_61 st_J9_min_7cf53 rfl rfl (w_min (l := (-2147483648)) (u := 10) (G0 L b) h234 10 v236 (by decide : B 10 10 10) (B.any v236) (by decide) (by decide) (Or.inl (by decide))) (fun r237 q237 => ?_)
    refine ev_putW (l := (-2147483648)) (u := 2147483647) hJ234 rfl q237 (by decide) (by decide) rfl rfl rfl fl_X0_20 rfl rfl rfl rfl rfl (fun h238 hJ238 k238 => ?_)
    refine ev_aload_n rfl rfl rfl ?_
    refine ev_dup rfl rfl rfl ?_
    refine ev_getW (l := (-2147483648)) (u := 2147483647) hJ238.1 rfl rfl rfl fl_X0_23 rfl rfl rfl (fun v239 b239 e239 => ?_)
    refine ev_iconst (v := 1) rfl rfl (by decide) ?_
    refine ev_iaddA rfl rfl (fun v240 g240 => ?_)
    refine ev_putW (l := (-2147483648)) (u := 2147483647) hJ238 rfl (B.any v240) (by decide) (by decide) rfl rfl rfl fl_X0_23 rfl rfl rfl rfl rfl (fun h241 hJ241 k241 => ?_)
    exact ev_vret rfl rfl trivial ⟨rfl, rfl, hJ241⟩

set_option maxRecDepth 100000 in
set_option maxHeartbeats 4000000 in
theorem w_X0_restore_11_2_4 (L : Nat) (b : Bool) (h : Hp) (hB : Bx h)  : EvJ mi_X0_restore [.ref 11, .ref 2, .ref 4] (G0 L b) h (fun r : Int32 => B r 0 1) [(2, 0), (2, 1), (2, 2), (2, 3), (2, 4), (4, 6), (9, 999), (10, 999), (11, 1), (11, 2), (11, 3)] := by
  refine EvM.of2 (lo := [some (.ref 11), some (.ref 2), some (.ref 4), none]) pf_X0_restore ok_X0_restore rfl rfl ?_
  have hJ0 : JW [(2, 0), (2, 1), (2, 2), (2, 3), (2, 4), (4, 6), (9, 999), (10, 999), (11, 1), (11, 2), (11, 3)] h h := JW.refl hB
  refine ev_aload_n rfl rfl rfl ?_
  refine ev_getW (l := (-2147483648)) (u := 2147483647) hJ0.1 rfl rfl rfl fl_X0_20 rfl rfl rfl (fun v1 b1 e1 => ?_)
  refine ev_if_ne rfl rfl (fun c2 => ?_) (fun c2 => ?_)
  · refine ev_aload_n rfl rfl rfl ?_
    refine ev_aload_n rfl rfl rfl ?_
    refine ev_getW (l := 0) (u := 9) hJ0.1 rfl rfl rfl fl_X0_16 rfl rfl rfl (fun v4 b4 e4 => ?_)
    refine ev_bipush (v := 10) rfl rfl (by decide) ?_
    refine ev_iaddB (l := 10) (u := 19) rfl rfl b4 (by decide : B 10 10 10) (by decide) (by decide) (by decide) (by decide) (fun v5 b5 e5 g5 => ?_)
    refine ev_iconst (v := 1) rfl rfl (by decide) ?_
    refine ev_isubB (l := 9) (u := 18) rfl rfl b5 (by decide : B 1 1 1) (by decide) (by decide) (by decide) (by decide) (fun v6 b6 e6 g6 => ?_)
    refine ev_bipush (v := 10) rfl rfl (by decide) ?_
    refine ev_iremB (u := 9) rfl rfl b6 (by decide : B 10 10 10) (by decide) (by decide) (by decide) (by decide) (fun v7 b7 => ?_)
    refine ev_putW (l := 0) (u := 9) hJ0 rfl b7 (by decide) (by decide) rfl rfl rfl fl_X0_16 rfl rfl rfl rfl rfl (fun h8 hJ8 k8 => ?_)
    refine ev_aload_n rfl rfl rfl ?_
    refine ev_dup rfl rfl rfl ?_
    refine ev_getV (v := v1) rfl rfl fl_X0_20 rfl rfl rfl (rd_o k8 e1 rfl) ?_
    refine ev_iconst (v := 1) rfl rfl (by decide) ?_
    refine ev_isubA rfl rfl (fun v9 g9 => ?_)
    refine ev_putW (l := (-2147483648)) (u := 2147483647) hJ8 rfl (B.any v9) (by decide) (by decide) rfl rfl rfl fl_X0_20 rfl rfl rfl rfl rfl (fun h10 hJ10 k10 => ?_)
    refine ev_aload_n rfl rfl rfl ?_
    refine ev_dup rfl rfl rfl ?_
    refine ev_getW (l := (-2147483648)) (u := 2147483647) hJ10.1 rfl rfl rfl fl_X0_23 rfl rfl rfl (fun v11 b11 e11 => ?_)
    refine ev_iconst (v := 1) rfl rfl (by decide) ?_
    refine ev_iaddA rfl rfl (fun v12 g12 => ?_)
    refine ev_putW (l := (-2147483648)) (u := 2147483647) hJ10 rfl (B.any v12) (by decide) (by decide) rfl rfl rfl fl_X0_23 rfl rfl rfl rfl rfl (fun h13 hJ13 k13 => ?_)
    refine ev_aload_n rfl rfl rfl ?_
    refine ev_getR (y := 12) rfl rfl fl_X0_13 rfl rfl rfl rfl ?_
    refine ev_aload_n rfl rfl rfl ?_
    refine ev_getV (v := v7) rfl rfl fl_X0_16 rfl rfl rfl (rd_o k13 (rd_o k10 (rd_s k8) rfl) rfl) ?_
    rcases B.c10 b7 with rfl | rfl | rfl | rfl | rfl | rfl | rfl | rfl | rfl | rfl
    · refine ev_aald (y := 13) (j := 0) rfl rfl rfl rfl (by unfold vp_in; decide) (by decide) rfl ?_
      refine ev_astore_n rfl rfl rfl rfl ?_
      dsimp only [List.set]
      refine ev_aload_n rfl rfl rfl ?_
      refine ev_aload_n rfl rfl rfl ?_
      refine ev_iconst (v := 0) rfl rfl (by decide) ?_
      refine ev_ialK (j := 0) (n := 30) (l := 0) (u := 200) hJ13.1 (by decide : B 0 0 0) (by decide) (by decide) (by decide) rfl rfl rfl rfl (fun v14 b14 e14 => ?_)
      refine ev_putW (l := 0) (u := 200) hJ13 rfl b14 (by decide) (by decide) rfl rfl rfl fl_X0_26 rfl rfl rfl rfl rfl (fun h15 hJ15 k15 => ?_)
      refine ev_aload_n rfl rfl rfl ?_
      refine ev_aload_n rfl rfl rfl ?_
      refine ev_iconst (v := 1) rfl rfl (by decide) ?_
      refine ev_ialK (j := 1) (n := 30) (l := (-2147483648)) (u := 2147483647) hJ15.1 (by decide : B 1 1 1) (by decide) (by decide) (by decide) rfl rfl rfl rfl (fun v16 b16 e16 => ?_)
      refine ev_putW (l := (-2147483648)) (u := 2147483647) hJ15 rfl (B.any v16) (by decide) (by decide) rfl rfl rfl fl_X0_31 rfl rfl rfl rfl rfl (fun h17 hJ17 k17 => ?_)
      refine ev_aload_n rfl rfl rfl ?_
      refine ev_aload_n rfl rfl rfl ?_
      refine ev_iconst (v := 2) rfl rfl (by decide) ?_
      refine ev_ialK (j := 2) (n := 30) (l := (-2147483648)) (u := 2147483647) hJ17.1 (by decide : B 2 2 2) (by decide) (by decide) (by decide) rfl rfl rfl rfl (fun v18 b18 e18 => ?_)
      refine ev_putW (l := (-2147483648)) (u := 2147483647) hJ17 rfl (B.any v18) (by decide) (by decide) rfl rfl rfl fl_X0_34 rfl rfl rfl rfl rfl (fun h19 hJ19 k19 => ?_)
      refine ev_aload_n rfl rfl rfl ?_
      refine ev_aload_n rfl rfl rfl ?_
      refine ev_iconst (v := 3) rfl rfl (by decide) ?_
      refine ev_ialK (j := 3) (n := 30) (l := 0) (u := 200) hJ19.1 (by decide : B 3 3 3) (by decide) (by decide) (by decide) rfl rfl rfl rfl (fun v20 b20 e20 => ?_)
      refine ev_putW (l := 0) (u := 200) hJ19 rfl b20 (by decide) (by decide) rfl rfl rfl fl_X0_37 rfl rfl rfl rfl rfl (fun h21 hJ21 k21 => ?_)
      refine ev_aload_n rfl rfl rfl ?_
      refine ev_aload_n rfl rfl rfl ?_
      refine ev_iconst (v := 4) rfl rfl (by decide) ?_
      refine ev_ialK (j := 4) (n := 30) (l := (-2147483648)) (u := 2147483647) hJ21.1 (by decide : B 4 4 4) (by decide) (by decide) (by decide) rfl rfl rfl rfl (fun v22 b22 e22 => ?_)
      refine ev_putW (l := (-2147483648)) (u := 2147483647) hJ21 rfl (B.any v22) (by decide) (by decide) rfl rfl rfl fl_X0_40 rfl rfl rfl rfl rfl (fun h23 hJ23 k23 => ?_)
      refine ev_aload_n rfl rfl rfl ?_
      refine ev_aload_n rfl rfl rfl ?_
      refine ev_iconst (v := 5) rfl rfl (by decide) ?_
      refine ev_ialK (j := 5) (n := 30) (l := (-2147483648)) (u := 2147483647) hJ23.1 (by decide : B 5 5 5) (by decide) (by decide) (by decide) rfl rfl rfl rfl (fun v24 b24 e24 => ?_)
      refine ev_putW (l := (-2147483648)) (u := 2147483647) hJ23 rfl (B.any v24) (by decide) (by decide) rfl rfl rfl fl_X0_43 rfl rfl rfl rfl rfl (fun h25 hJ25 k25 => ?_)
      refine ev_aload_n rfl rfl rfl ?_
      refine ev_bipush (v := 6) rfl rfl (by decide) ?_
      refine ev_aload_n rfl rfl rfl ?_
      refine ev_getR (y := 9) rfl rfl fl_X0_48 rfl rfl rfl rfl ?_
      refine ev_iconst (v := 0) rfl rfl (by decide) ?_
      refine ev_bipush (v := 12) rfl rfl (by decide) ?_
      refine ev_cpyW (sN := 6) (dN := 0) (n0 := 30) (n1 := 12) (l := (-2147483648)) (u := 2147483647) (l' := (-2147483648)) (u' := 2147483647) hJ25 (fun _ => rfl) (fun _ => rfl) (by decide) (by decide) (fun _ => rfl) (by decide : B 12 12 12) (by decide) (by decide) (by decide) (by decide) (by decide) (by decide) (by decide) rfl rfl cp_X0_52 rfl rfl rfl rfl rfl rfl (by decide) (fun h26 hJ26 k26 => ?_)
      refine ev_aload_n rfl rfl rfl ?_
      refine ev_bipush (v := 18) rfl rfl (by decide) ?_
      refine ev_aload_n rfl rfl rfl ?_
      refine ev_getR (y := 10) rfl rfl fl_X0_58 rfl rfl rfl rfl ?_
      refine ev_iconst (v := 0) rfl rfl (by decide) ?_
      refine ev_bipush (v := 12) rfl rfl (by decide) ?_
      refine ev_cpyW (sN := 18) (dN := 0) (n0 := 30) (n1 := 12) (l := (-2147483648)) (u := 2147483647) (l' := (-2147483648)) (u' := 2147483647) hJ26 (fun _ => rfl) (fun _ => rfl) (by decide) (by decide) (fun _ => rfl) (by decide : B 12 12 12) (by decide) (by decide) (by decide) (by decide) (by decide) (by decide) (by decide) rfl rfl cp_X0_52 rfl rfl rfl rfl rfl rfl (by decide) (fun h27 hJ27 k27 => ?_)
      refine ev_iconst (v := 1) rfl rfl (by decide) ?_
      exact ev_iret rfl rfl rfl ⟨⟨_, rfl, ((by decide : B 1 1 1).mono (by decide) (by decide))⟩, rfl, hJ27⟩
    · refine ev_aald (y := 14) (j := 1) rfl rfl rfl rfl (by unfold vp_in; decide) (by decide) rfl ?_
      refine ev_astore_n rfl rfl rfl rfl ?_
      dsimp only [List.set]
      refine ev_aload_n rfl rfl rfl ?_
      refine ev_aload_n rfl rfl rfl ?_
      refine ev_iconst (v := 0) rfl rfl (by decide) ?_
      refine ev_ialK (j := 0) (n := 30) (l := 0) (u := 200) hJ13.1 (by decide : B 0 0 0) (by decide) (by decide) (by decide) rfl rfl rfl rfl (fun v28 b28 e28 => ?_)
      refine ev_putW (l := 0) (u := 200) hJ13 rfl b28 (by decide) (by decide) rfl rfl rfl fl_X0_26 rfl rfl rfl rfl rfl (fun h29 hJ29 k29 => ?_)
      refine ev_aload_n rfl rfl rfl ?_
      refine ev_aload_n rfl rfl rfl ?_
      refine ev_iconst (v := 1) rfl rfl (by decide) ?_
      refine ev_ialK (j := 1) (n := 30) (l := (-2147483648)) (u := 2147483647) hJ29.1 (by decide : B 1 1 1) (by decide) (by decide) (by decide) rfl rfl rfl rfl (fun v30 b30 e30 => ?_)
      refine ev_putW (l := (-2147483648)) (u := 2147483647) hJ29 rfl (B.any v30) (by decide) (by decide) rfl rfl rfl fl_X0_31 rfl rfl rfl rfl rfl (fun h31 hJ31 k31 => ?_)
      refine ev_aload_n rfl rfl rfl ?_
      refine ev_aload_n rfl rfl rfl ?_
      refine ev_iconst (v := 2) rfl rfl (by decide) ?_
      refine ev_ialK (j := 2) (n := 30) (l := (-2147483648)) (u := 2147483647) hJ31.1 (by decide : B 2 2 2) (by decide) (by decide) (by decide) rfl rfl rfl rfl (fun v32 b32 e32 => ?_)
      refine ev_putW (l := (-2147483648)) (u := 2147483647) hJ31 rfl (B.any v32) (by decide) (by decide) rfl rfl rfl fl_X0_34 rfl rfl rfl rfl rfl (fun h33 hJ33 k33 => ?_)
      refine ev_aload_n rfl rfl rfl ?_
      refine ev_aload_n rfl rfl rfl ?_
      refine ev_iconst (v := 3) rfl rfl (by decide) ?_
      refine ev_ialK (j := 3) (n := 30) (l := 0) (u := 200) hJ33.1 (by decide : B 3 3 3) (by decide) (by decide) (by decide) rfl rfl rfl rfl (fun v34 b34 e34 => ?_)
      refine ev_putW (l := 0) (u := 200) hJ33 rfl b34 (by decide) (by decide) rfl rfl rfl fl_X0_37 rfl rfl rfl rfl rfl (fun h35 hJ35 k35 => ?_)
      refine ev_aload_n rfl rfl rfl ?_
      refine ev_aload_n rfl rfl rfl ?_
      refine ev_iconst (v := 4) rfl rfl (by decide) ?_
      refine ev_ialK (j := 4) (n := 30) (l := (-2147483648)) (u := 2147483647) hJ35.1 (by decide : B 4 4 4) (by decide) (by decide) (by decide) rfl rfl rfl rfl (fun v36 b36 e36 => ?_)
      refine ev_putW (l := (-2147483648)) (u := 2147483647) hJ35 rfl (B.any v36) (by decide) (by decide) rfl rfl rfl fl_X0_40 rfl rfl rfl rfl rfl (fun h37 hJ37 k37 => ?_)
      refine ev_aload_n rfl rfl rfl ?_
      refine ev_aload_n rfl rfl rfl ?_
      refine ev_iconst (v := 5) rfl rfl (by decide) ?_
      refine ev_ialK (j := 5) (n := 30) (l := (-2147483648)) (u := 2147483647) hJ37.1 (by decide : B 5 5 5) (by decide) (by decide) (by decide) rfl rfl rfl rfl (fun v38 b38 e38 => ?_)
      refine ev_putW (l := (-2147483648)) (u := 2147483647) hJ37 rfl (B.any v38) (by decide) (by decide) rfl rfl rfl fl_X0_43 rfl rfl rfl rfl rfl (fun h39 hJ39 k39 => ?_)
      refine ev_aload_n rfl rfl rfl ?_
      refine ev_bipush (v := 6) rfl rfl (by decide) ?_
      refine ev_aload_n rfl rfl rfl ?_
      refine ev_getR (y := 9) rfl rfl fl_X0_48 rfl rfl rfl rfl ?_
      refine ev_iconst (v := 0) rfl rfl (by decide) ?_
      refine ev_bipush (v := 12) rfl rfl (by decide) ?_
      refine ev_cpyW (sN := 6) (dN := 0) (n0 := 30) (n1 := 12) (l := (-2147483648)) (u := 2147483647) (l' := (-2147483648)) (u' := 2147483647) hJ39 (fun _ => rfl) (fun _ => rfl) (by decide) (by decide) (fun _ => rfl) (by decide : B 12 12 12) (by decide) (by decide) (by decide) (by decide) (by decide) (by decide) (by decide) rfl rfl cp_X0_52 rfl rfl rfl rfl rfl rfl (by decide) (fun h40 hJ40 k40 => ?_)
      refine ev_aload_n rfl rfl rfl ?_
      refine ev_bipush (v := 18) rfl rfl (by decide) ?_
      refine ev_aload_n rfl rfl rfl ?_
      refine ev_getR (y := 10) rfl rfl fl_X0_58 rfl rfl rfl rfl ?_
      refine ev_iconst (v := 0) rfl rfl (by decide) ?_
      refine ev_bipush (v := 12) rfl rfl (by decide) ?_
      refine ev_cpyW (sN := 18) (dN := 0) (n0 := 30) (n1 := 12) (l := (-2147483648)) (u := 2147483647) (l' := (-2147483648)) (u' := 2147483647) hJ40 (fun _ => rfl) (fun _ => rfl) (by decide) (by decide) (fun _ => rfl) (by decide : B 12 12 12) (by decide) (by decide) (by decide) (by decide) (by decide) (by decide) (by decide) rfl rfl cp_X0_52 rfl rfl rfl rfl rfl rfl (by decide) (fun h41 hJ41 k41 => ?_)
      refine ev_iconst (v := 1) rfl rfl (by decide) ?_
      exact ev_iret rfl rfl rfl ⟨⟨_, rfl, ((by decide : B 1 1 1).mono (by decide) (by decide))⟩, rfl, hJ41⟩
    · refine ev_aald (y := 15) (j := 2) rfl rfl rfl rfl (by unfold vp_in; decide) (by decide) rfl ?_
      refine ev_astore_n rfl rfl rfl rfl ?_
      dsimp only [List.set]
      refine ev_aload_n rfl rfl rfl ?_
      refine ev_aload_n rfl rfl rfl ?_
      refine ev_iconst (v := 0) rfl rfl (by decide) ?_
      refine ev_ialK (j := 0) (n := 30) (l := 0) (u := 200) hJ13.1 (by decide : B 0 0 0) (by decide) (by decide) (by decide) rfl rfl rfl rfl (fun v42 b42 e42 => ?_)
      refine ev_putW (l := 0) (u := 200) hJ13 rfl b42 (by decide) (by decide) rfl rfl rfl fl_X0_26 rfl rfl rfl rfl rfl (fun h43 hJ43 k43 => ?_)
      refine ev_aload_n rfl rfl rfl ?_
      refine ev_aload_n rfl rfl rfl ?_
      refine ev_iconst (v := 1) rfl rfl (by decide) ?_
      refine ev_ialK (j := 1) (n := 30) (l := (-2147483648)) (u := 2147483647) hJ43.1 (by decide : B 1 1 1) (by decide) (by decide) (by decide) rfl rfl rfl rfl (fun v44 b44 e44 => ?_)
      refine ev_putW (l := (-2147483648)) (u := 2147483647) hJ43 rfl (B.any v44) (by decide) (by decide) rfl rfl rfl fl_X0_31 rfl rfl rfl rfl rfl (fun h45 hJ45 k45 => ?_)
      refine ev_aload_n rfl rfl rfl ?_
      refine ev_aload_n rfl rfl rfl ?_
      refine ev_iconst (v := 2) rfl rfl (by decide) ?_
      refine ev_ialK (j := 2) (n := 30) (l := (-2147483648)) (u := 2147483647) hJ45.1 (by decide : B 2 2 2) (by decide) (by decide) (by decide) rfl rfl rfl rfl (fun v46 b46 e46 => ?_)
      refine ev_putW (l := (-2147483648)) (u := 2147483647) hJ45 rfl (B.any v46) (by decide) (by decide) rfl rfl rfl fl_X0_34 rfl rfl rfl rfl rfl (fun h47 hJ47 k47 => ?_)
      refine ev_aload_n rfl rfl rfl ?_
      refine ev_aload_n rfl rfl rfl ?_
      refine ev_iconst (v := 3) rfl rfl (by decide) ?_
      refine ev_ialK (j := 3) (n := 30) (l := 0) (u := 200) hJ47.1 (by decide : B 3 3 3) (by decide) (by decide) (by decide) rfl rfl rfl rfl (fun v48 b48 e48 => ?_)
      refine ev_putW (l := 0) (u := 200) hJ47 rfl b48 (by decide) (by decide) rfl rfl rfl fl_X0_37 rfl rfl rfl rfl rfl (fun h49 hJ49 k49 => ?_)
      refine ev_aload_n rfl rfl rfl ?_
      refine ev_aload_n rfl rfl rfl ?_
      refine ev_iconst (v := 4) rfl rfl (by decide) ?_
      refine ev_ialK (j := 4) (n := 30) (l := (-2147483648)) (u := 2147483647) hJ49.1 (by decide : B 4 4 4) (by decide) (by decide) (by decide) rfl rfl rfl rfl (fun v50 b50 e50 => ?_)
      refine ev_putW (l := (-2147483648)) (u := 2147483647) hJ49 rfl (B.any v50) (by decide) (by decide) rfl rfl rfl fl_X0_40 rfl rfl rfl rfl rfl (fun h51 hJ51 k51 => ?_)
      refine ev_aload_n rfl rfl rfl ?_
      refine ev_aload_n rfl rfl rfl ?_
      refine ev_iconst (v := 5) rfl rfl (by decide) ?_
      refine ev_ialK (j := 5) (n := 30) (l := (-2147483648)) (u := 2147483647) hJ51.1 (by decide : B 5 5 5) (by decide) (by decide) (by decide) rfl rfl rfl rfl (fun v52 b52 e52 => ?_)
      refine ev_putW (l := (-2147483648)) (u := 2147483647) hJ51 rfl (B.any v52) (by decide) (by decide) rfl rfl rfl fl_X0_43 rfl rfl rfl rfl rfl (fun h53 hJ53 k53 => ?_)
      refine ev_aload_n rfl rfl rfl ?_
      refine ev_bipush (v := 6) rfl rfl (by decide) ?_
      refine ev_aload_n rfl rfl rfl ?_
      refine ev_getR (y := 9) rfl rfl fl_X0_48 rfl rfl rfl rfl ?_
      refine ev_iconst (v := 0) rfl rfl (by decide) ?_
      refine ev_bipush (v := 12) rfl rfl (by decide) ?_
      refine ev_cpyW (sN := 6) (dN := 0) (n0 := 30) (n1 := 12) (l := (-2147483648)) (u := 2147483647) (l' := (-2147483648)) (u' := 2147483647) hJ53 (fun _ => rfl) (fun _ => rfl) (by decide) (by decide) (fun _ => rfl) (by decide : B 12 12 12) (by decide) (by decide) (by decide) (by decide) (by decide) (by decide) (by decide) rfl rfl cp_X0_52 rfl rfl rfl rfl rfl rfl (by decide) (fun h54 hJ54 k54 => ?_)
      refine ev_aload_n rfl rfl rfl ?_
      refine ev_bipush (v := 18) rfl rfl (by decide) ?_
      refine ev_aload_n rfl rfl rfl ?_
      refine ev_getR (y := 10) rfl rfl fl_X0_58 rfl rfl rfl rfl ?_
      refine ev_iconst (v := 0) rfl rfl (by decide) ?_
      refine ev_bipush (v := 12) rfl rfl (by decide) ?_
      refine ev_cpyW (sN := 18) (dN := 0) (n0 := 30) (n1 := 12) (l := (-2147483648)) (u := 2147483647) (l' := (-2147483648)) (u' := 2147483647) hJ54 (fun _ => rfl) (fun _ => rfl) (by decide) (by decide) (fun _ => rfl) (by decide : B 12 12 12) (by decide) (by decide) (by decide) (by decide) (by decide) (by decide) (by decide) rfl rfl cp_X0_52 rfl rfl rfl rfl rfl rfl (by decide) (fun h55 hJ55 k55 => ?_)
      refine ev_iconst (v := 1) rfl rfl (by decide) ?_
      exact ev_iret rfl rfl rfl ⟨⟨_, rfl, ((by decide : B 1 1 1).mono (by decide) (by decide))⟩, rfl, hJ55⟩
    · refine ev_aald (y := 16) (j := 3) rfl rfl rfl rfl (by unfold vp_in; decide) (by decide) rfl ?_
      refine ev_astore_n rfl rfl rfl rfl ?_
      dsimp only [List.set]
      refine ev_aload_n rfl rfl rfl ?_
      refine ev_aload_n rfl rfl rfl ?_
      refine ev_iconst (v := 0) rfl rfl (by decide) ?_
      refine ev_ialK (j := 0) (n := 30) (l := 0) (u := 200) hJ13.1 (by decide : B 0 0 0) (by decide) (by decide) (by decide) rfl rfl rfl rfl (fun v56 b56 e56 => ?_)
      refine ev_putW (l := 0) (u := 200) hJ13 rfl b56 (by decide) (by decide) rfl rfl rfl fl_X0_26 rfl rfl rfl rfl rfl (fun h57 hJ57 k57 => ?_)
      refine ev_aload_n rfl rfl rfl ?_
      refine ev_aload_n rfl rfl rfl ?_
      refine ev_iconst (v := 1) rfl rfl (by decide) ?_
      refine ev_ialK (j := 1) (n := 30) (l := (-2147483648)) (u := 2147483647) hJ57.1 (by decide : B 1 1 1) (by decide) (by decide) (by decide) rfl rfl rfl rfl (fun v58 b58 e58 => ?_)
      refine ev_putW (l := (-2147483648)) (u := 2147483647) hJ57 rfl (B.any v58) (by decide) (by decide) rfl rfl rfl fl_X0_31 rfl rfl rfl rfl rfl (fun h59 hJ59 k59 => ?_)
      refine ev_aload_n rfl rfl rfl ?_
      refine ev_aload_n rfl rfl rfl ?_
      refine ev_iconst (v := 2) rfl rfl (by decide) ?_
      refine ev_ialK (j := 2) (n := 30) (l := (-2147483648)) (u := 2147483647) hJ59.1 (by decide : B 2 2 2) (by decide) (by decide) (by decide) rfl rfl rfl rfl (fun v60 b60 e60 => ?_)
      refine ev_putW (l := (-2147483648)) (u := 2147483647) hJ59 rfl (B.any v60) (by decide) (by decide) rfl rfl rfl fl_X0_34 rfl rfl rfl rfl rfl (fun h61 hJ61 k61 => ?_)
      refine ev_aload_n rfl rfl rfl ?_
      refine ev_aload_n rfl rfl rfl ?_
      refine ev_iconst (v := 3) rfl rfl (by decide) ?_
      refine ev_ialK (j := 3) (n := 30) (l := 0) (u := 200) hJ61.1 (by decide : B 3 3 3) (by decide) (by decide) (by decide) rfl rfl rfl rfl (fun v62 b62 e62 => ?_)
      refine ev_putW (l := 0) (u := 200) hJ61 rfl b62 (by decide) (by decide) rfl rfl rfl fl_X0_37 rfl rfl rfl rfl rfl (fun h63 hJ63 k63 => ?_)
      refine ev_aload_n rfl rfl rfl ?_
      refine ev_aload_n rfl rfl rfl ?_
      refine ev_iconst (v := 4) rfl rfl (by decide) ?_
      refine ev_ialK (j := 4) (n := 30) (l := (-2147483648)) (u := 2147483647) hJ63.1 (by decide : B 4 4 4) (by decide) (by decide) (by decide) rfl rfl rfl rfl (fun v64 b64 e64 => ?_)
      refine ev_putW (l := (-2147483648)) (u := 2147483647) hJ63 rfl (B.any v64) (by decide) (by decide) rfl rfl rfl fl_X0_40 rfl rfl rfl rfl rfl (fun h65 hJ65 k65 => ?_)
      refine ev_aload_n rfl rfl rfl ?_
      refine ev_aload_n rfl rfl rfl ?_
      refine ev_iconst (v := 5) rfl rfl (by decide) ?_
      refine ev_ialK (j := 5) (n := 30) (l := (-2147483648)) (u := 2147483647) hJ65.1 (by decide : B 5 5 5) (by decide) (by decide) (by decide) rfl rfl rfl rfl (fun v66 b66 e66 => ?_)
      refine ev_putW (l := (-2147483648)) (u := 2147483647) hJ65 rfl (B.any v66) (by decide) (by decide) rfl rfl rfl fl_X0_43 rfl rfl rfl rfl rfl (fun h67 hJ67 k67 => ?_)
      refine ev_aload_n rfl rfl rfl ?_
      refine ev_bipush (v := 6) rfl rfl (by decide) ?_
      refine ev_aload_n rfl rfl rfl ?_
      refine ev_getR (y := 9) rfl rfl fl_X0_48 rfl rfl rfl rfl ?_
      refine ev_iconst (v := 0) rfl rfl (by decide) ?_
      refine ev_bipush (v := 12) rfl rfl (by decide) ?_
      refine ev_cpyW (sN := 6) (dN := 0) (n0 := 30) (n1 := 12) (l := (-2147483648)) (u := 2147483647) (l' := (-2147483648)) (u' := 2147483647) hJ67 (fun _ => rfl) (fun _ => rfl) (by decide) (by decide) (fun _ => rfl) (by decide : B 12 12 12) (by decide) (by decide) (by decide) (by decide) (by decide) (by decide) (by decide) rfl rfl cp_X0_52 rfl rfl rfl rfl rfl rfl (by decide) (fun h68 hJ68 k68 => ?_)
      refine ev_aload_n rfl rfl rfl ?_
      refine ev_bipush (v := 18) rfl rfl (by decide) ?_
      refine ev_aload_n rfl rfl rfl ?_
      refine ev_getR (y := 10) rfl rfl fl_X0_58 rfl rfl rfl rfl ?_
      refine ev_iconst (v := 0) rfl rfl (by decide) ?_
      refine ev_bipush (v := 12) rfl rfl (by decide) ?_
      refine ev_cpyW (sN := 18) (dN := 0) (n0 := 30) (n1 := 12) (l := (-2147483648)) (u := 2147483647) (l' := (-2147483648)) (u' := 2147483647) hJ68 (fun _ => rfl) (fun _ => rfl) (by decide) (by decide) (fun _ => rfl) (by decide : B 12 12 12) (by decide) (by decide) (by decide) (by decide) (by decide) (by decide) (by decide) rfl rfl cp_X0_52 rfl rfl rfl rfl rfl rfl (by decide) (fun h69 hJ69 k69 => ?_)
      refine ev_iconst (v := 1) rfl rfl (by decide) ?_
      exact ev_iret rfl rfl rfl ⟨⟨_, rfl, ((by decide : B 1 1 1).mono (by decide) (by decide))⟩, rfl, hJ69⟩
    · refine ev_aald (y := 17) (j := 4) rfl rfl rfl rfl (by unfold vp_in; decide) (by decide) rfl ?_
      refine ev_astore_n rfl rfl rfl rfl ?_
      dsimp only [List.set]
      refine ev_aload_n rfl rfl rfl ?_
      refine ev_aload_n rfl rfl rfl ?_
      refine ev_iconst (v := 0) rfl rfl (by decide) ?_
      refine ev_ialK (j := 0) (n := 30) (l := 0) (u := 200) hJ13.1 (by decide : B 0 0 0) (by decide) (by decide) (by decide) rfl rfl rfl rfl (fun v70 b70 e70 => ?_)
      refine ev_putW (l := 0) (u := 200) hJ13 rfl b70 (by decide) (by decide) rfl rfl rfl fl_X0_26 rfl rfl rfl rfl rfl (fun h71 hJ71 k71 => ?_)
      refine ev_aload_n rfl rfl rfl ?_
      refine ev_aload_n rfl rfl rfl ?_
      refine ev_iconst (v := 1) rfl rfl (by decide) ?_
      refine ev_ialK (j := 1) (n := 30) (l := (-2147483648)) (u := 2147483647) hJ71.1 (by decide : B 1 1 1) (by decide) (by decide) (by decide) rfl rfl rfl rfl (fun v72 b72 e72 => ?_)
      refine ev_putW (l := (-2147483648)) (u := 2147483647) hJ71 rfl (B.any v72) (by decide) (by decide) rfl rfl rfl fl_X0_31 rfl rfl rfl rfl rfl (fun h73 hJ73 k73 => ?_)
      refine ev_aload_n rfl rfl rfl ?_
      refine ev_aload_n rfl rfl rfl ?_
      refine ev_iconst (v := 2) rfl rfl (by decide) ?_
      refine ev_ialK (j := 2) (n := 30) (l := (-2147483648)) (u := 2147483647) hJ73.1 (by decide : B 2 2 2) (by decide) (by decide) (by decide) rfl rfl rfl rfl (fun v74 b74 e74 => ?_)
      refine ev_putW (l := (-2147483648)) (u := 2147483647) hJ73 rfl (B.any v74) (by decide) (by decide) rfl rfl rfl fl_X0_34 rfl rfl rfl rfl rfl (fun h75 hJ75 k75 => ?_)
      refine ev_aload_n rfl rfl rfl ?_
      refine ev_aload_n rfl rfl rfl ?_
      refine ev_iconst (v := 3) rfl rfl (by decide) ?_
      refine ev_ialK (j := 3) (n := 30) (l := 0) (u := 200) hJ75.1 (by decide : B 3 3 3) (by decide) (by decide) (by decide) rfl rfl rfl rfl (fun v76 b76 e76 => ?_)
      refine ev_putW (l := 0) (u := 200) hJ75 rfl b76 (by decide) (by decide) rfl rfl rfl fl_X0_37 rfl rfl rfl rfl rfl (fun h77 hJ77 k77 => ?_)
      refine ev_aload_n rfl rfl rfl ?_
      refine ev_aload_n rfl rfl rfl ?_
      refine ev_iconst (v := 4) rfl rfl (by decide) ?_
      refine ev_ialK (j := 4) (n := 30) (l := (-2147483648)) (u := 2147483647) hJ77.1 (by decide : B 4 4 4) (by decide) (by decide) (by decide) rfl rfl rfl rfl (fun v78 b78 e78 => ?_)
      refine ev_putW (l := (-2147483648)) (u := 2147483647) hJ77 rfl (B.any v78) (by decide) (by decide) rfl rfl rfl fl_X0_40 rfl rfl rfl rfl rfl (fun h79 hJ79 k79 => ?_)
      refine ev_aload_n rfl rfl rfl ?_
      refine ev_aload_n rfl rfl rfl ?_
      refine ev_iconst (v := 5) rfl rfl (by decide) ?_
      refine ev_ialK (j := 5) (n := 30) (l := (-2147483648)) (u := 2147483647) hJ79.1 (by decide : B 5 5 5) (by decide) (by decide) (by decide) rfl rfl rfl rfl (fun v80 b80 e80 => ?_)
      refine ev_putW (l := (-2147483648)) (u := 2147483647) hJ79 rfl (B.any v80) (by decide) (by decide) rfl rfl rfl fl_X0_43 rfl rfl rfl rfl rfl (fun h81 hJ81 k81 => ?_)
      refine ev_aload_n rfl rfl rfl ?_
      refine ev_bipush (v := 6) rfl rfl (by decide) ?_
      refine ev_aload_n rfl rfl rfl ?_
      refine ev_getR (y := 9) rfl rfl fl_X0_48 rfl rfl rfl rfl ?_
      refine ev_iconst (v := 0) rfl rfl (by decide) ?_
      refine ev_bipush (v := 12) rfl rfl (by decide) ?_
      refine ev_cpyW (sN := 6) (dN := 0) (n0 := 30) (n1 := 12) (l := (-2147483648)) (u := 2147483647) (l' := (-2147483648)) (u' := 2147483647) hJ81 (fun _ => rfl) (fun _ => rfl) (by decide) (by decide) (fun _ => rfl) (by decide : B 12 12 12) (by decide) (by decide) (by decide) (by decide) (by decide) (by decide) (by decide) rfl rfl cp_X0_52 rfl rfl rfl rfl rfl rfl (by decide) (fun h82 hJ82 k82 => ?_)
      refine ev_aload_n rfl rfl rfl ?_
      refine ev_bipush (v := 18) rfl rfl (by decide) ?_
      refine ev_aload_n rfl rfl rfl ?_
      refine ev_getR (y := 10) rfl rfl fl_X0_58 rfl rfl rfl rfl ?_
      refine ev_iconst (v := 0) rfl rfl (by decide) ?_
      refine ev_bipush (v := 12) rfl rfl (by decide) ?_
      refine ev_cpyW (sN := 18) (dN := 0) (n0 := 30) (n1 := 12) (l := (-2147483648)) (u := 2147483647) (l' := (-2147483648)) (u' := 2147483647) hJ82 (fun _ => rfl) (fun _ => rfl) (by decide) (by decide) (fun _ => rfl) (by decide : B 12 12 12) (by decide) (by decide) (by decide) (by decide) (by decide) (by decide) (by decide) rfl rfl cp_X0_52 rfl rfl rfl rfl rfl rfl (by decide) (fun h83 hJ83 k83 => ?_)
      refine ev_iconst (v := 1) rfl rfl (by decide) ?_
      exact ev_iret rfl rfl rfl ⟨⟨_, rfl, ((by decide : B 1 1 1).mono (by decide) (by decide))⟩, rfl, hJ83⟩
    · refine ev_aald (y := 18) (j := 5) rfl rfl rfl rfl (by unfold vp_in; decide) (by decide) rfl ?_
      refine ev_astore_n rfl rfl rfl rfl ?_
      dsimp only [List.set]
      refine ev_aload_n rfl rfl rfl ?_
      refine ev_aload_n rfl rfl rfl ?_
      refine ev_iconst (v := 0) rfl rfl (by decide) ?_
      refine ev_ialK (j := 0) (n := 30) (l := 0) (u := 200) hJ13.1 (by decide : B 0 0 0) (by decide) (by decide) (by decide) rfl rfl rfl rfl (fun v84 b84 e84 => ?_)
      refine ev_putW (l := 0) (u := 200) hJ13 rfl b84 (by decide) (by decide) rfl rfl rfl fl_X0_26 rfl rfl rfl rfl rfl (fun h85 hJ85 k85 => ?_)
      refine ev_aload_n rfl rfl rfl ?_
      refine ev_aload_n rfl rfl rfl ?_
      refine ev_iconst (v := 1) rfl rfl (by decide) ?_
      refine ev_ialK (j := 1) (n := 30) (l := (-2147483648)) (u := 2147483647) hJ85.1 (by decide : B 1 1 1) (by decide) (by decide) (by decide) rfl rfl rfl rfl (fun v86 b86 e86 => ?_)
      refine ev_putW (l := (-2147483648)) (u := 2147483647) hJ85 rfl (B.any v86) (by decide) (by decide) rfl rfl rfl fl_X0_31 rfl rfl rfl rfl rfl (fun h87 hJ87 k87 => ?_)
      refine ev_aload_n rfl rfl rfl ?_
      refine ev_aload_n rfl rfl rfl ?_
      refine ev_iconst (v := 2) rfl rfl (by decide) ?_
      refine ev_ialK (j := 2) (n := 30) (l := (-2147483648)) (u := 2147483647) hJ87.1 (by decide : B 2 2 2) (by decide) (by decide) (by decide) rfl rfl rfl rfl (fun v88 b88 e88 => ?_)
      refine ev_putW (l := (-2147483648)) (u := 2147483647) hJ87 rfl (B.any v88) (by decide) (by decide) rfl rfl rfl fl_X0_34 rfl rfl rfl rfl rfl (fun h89 hJ89 k89 => ?_)
      refine ev_aload_n rfl rfl rfl ?_
      refine ev_aload_n rfl rfl rfl ?_
      refine ev_iconst (v := 3) rfl rfl (by decide) ?_
      refine ev_ialK (j := 3) (n := 30) (l := 0) (u := 200) hJ89.1 (by decide : B 3 3 3) (by decide) (by decide) (by decide) rfl rfl rfl rfl (fun v90 b90 e90 => ?_)
      refine ev_putW (l := 0) (u := 200) hJ89 rfl b90 (by decide) (by decide) rfl rfl rfl fl_X0_37 rfl rfl rfl rfl rfl (fun h91 hJ91 k91 => ?_)
      refine ev_aload_n rfl rfl rfl ?_
      refine ev_aload_n rfl rfl rfl ?_
      refine ev_iconst (v := 4) rfl rfl (by decide) ?_
      refine ev_ialK (j := 4) (n := 30) (l := (-2147483648)) (u := 2147483647) hJ91.1 (by decide : B 4 4 4) (by decide) (by decide) (by decide) rfl rfl rfl rfl (fun v92 b92 e92 => ?_)
      refine ev_putW (l := (-2147483648)) (u := 2147483647) hJ91 rfl (B.any v92) (by decide) (by decide) rfl rfl rfl fl_X0_40 rfl rfl rfl rfl rfl (fun h93 hJ93 k93 => ?_)
      refine ev_aload_n rfl rfl rfl ?_
      refine ev_aload_n rfl rfl rfl ?_
      refine ev_iconst (v := 5) rfl rfl (by decide) ?_
      refine ev_ialK (j := 5) (n := 30) (l := (-2147483648)) (u := 2147483647) hJ93.1 (by decide : B 5 5 5) (by decide) (by decide) (by decide) rfl rfl rfl rfl (fun v94 b94 e94 => ?_)
      refine ev_putW (l := (-2147483648)) (u := 2147483647) hJ93 rfl (B.any v94) (by decide) (by decide) rfl rfl rfl fl_X0_43 rfl rfl rfl rfl rfl (fun h95 hJ95 k95 => ?_)
      refine ev_aload_n rfl rfl rfl ?_
      refine ev_bipush (v := 6) rfl rfl (by decide) ?_
      refine ev_aload_n rfl rfl rfl ?_
      refine ev_getR (y := 9) rfl rfl fl_X0_48 rfl rfl rfl rfl ?_
      refine ev_iconst (v := 0) rfl rfl (by decide) ?_
      refine ev_bipush (v := 12) rfl rfl (by decide) ?_
      refine ev_cpyW (sN := 6) (dN := 0) (n0 := 30) (n1 := 12) (l := (-2147483648)) (u := 2147483647) (l' := (-2147483648)) (u' := 2147483647) hJ95 (fun _ => rfl) (fun _ => rfl) (by decide) (by decide) (fun _ => rfl) (by decide : B 12 12 12) (by decide) (by decide) (by decide) (by decide) (by decide) (by decide) (by decide) rfl rfl cp_X0_52 rfl rfl rfl rfl rfl rfl (by decide) (fun h96 hJ96 k96 => ?_)
      refine ev_aload_n rfl rfl rfl ?_
      refine ev_bipush (v := 18) rfl rfl (by decide) ?_
      refine ev_aload_n rfl rfl rfl ?_
      refine ev_getR (y := 10) rfl rfl fl_X0_58 rfl rfl rfl rfl ?_
      refine ev_iconst (v := 0) rfl rfl (by decide) ?_
      refine ev_bipush (v := 12) rfl rfl (by decide) ?_
      refine ev_cpyW (sN := 18) (dN := 0) (n0 := 30) (n1 := 12) (l := (-2147483648)) (u := 2147483647) (l' := (-2147483648)) (u' := 2147483647) hJ96 (fun _ => rfl) (fun _ => rfl) (by decide) (by decide) (fun _ => rfl) (by decide : B 12 12 12) (by decide) (by decide) (by decide) (by decide) (by decide) (by decide) (by decide) rfl rfl cp_X0_52 rfl rfl rfl rfl rfl rfl (by decide) (fun h97 hJ97 k97 => ?_)
      refine ev_iconst (v := 1) rfl rfl (by decide) ?_
      exact ev_iret rfl rfl rfl ⟨⟨_, rfl, ((by decide : B 1 1 1).mono (by decide) (by decide))⟩, rfl, hJ97⟩
    · refine ev_aald (y := 19) (j := 6) rfl rfl rfl rfl (by unfold vp_in; decide) (by decide) rfl ?_
      refine ev_astore_n rfl rfl rfl rfl ?_
      dsimp only [List.set]
      refine ev_aload_n rfl rfl rfl ?_
      refine ev_aload_n rfl rfl rfl ?_
      refine ev_iconst (v := 0) rfl rfl (by decide) ?_
      refine ev_ialK (j := 0) (n := 30) (l := 0) (u := 200) hJ13.1 (by decide : B 0 0 0) (by decide) (by decide) (by decide) rfl rfl rfl rfl (fun v98 b98 e98 => ?_)
      refine ev_putW (l := 0) (u := 200) hJ13 rfl b98 (by decide) (by decide) rfl rfl rfl fl_X0_26 rfl rfl rfl rfl rfl (fun h99 hJ99 k99 => ?_)
      refine ev_aload_n rfl rfl rfl ?_
      refine ev_aload_n rfl rfl rfl ?_
      refine ev_iconst (v := 1) rfl rfl (by decide) ?_
      refine ev_ialK (j := 1) (n := 30) (l := (-2147483648)) (u := 2147483647) hJ99.1 (by decide : B 1 1 1) (by decide) (by decide) (by decide) rfl rfl rfl rfl (fun v100 b100 e100 => ?_)
      refine ev_putW (l := (-2147483648)) (u := 2147483647) hJ99 rfl (B.any v100) (by decide) (by decide) rfl rfl rfl fl_X0_31 rfl rfl rfl rfl rfl (fun h101 hJ101 k101 => ?_)
      refine ev_aload_n rfl rfl rfl ?_
      refine ev_aload_n rfl rfl rfl ?_
      refine ev_iconst (v := 2) rfl rfl (by decide) ?_
      refine ev_ialK (j := 2) (n := 30) (l := (-2147483648)) (u := 2147483647) hJ101.1 (by decide : B 2 2 2) (by decide) (by decide) (by decide) rfl rfl rfl rfl (fun v102 b102 e102 => ?_)
      refine ev_putW (l := (-2147483648)) (u := 2147483647) hJ101 rfl (B.any v102) (by decide) (by decide) rfl rfl rfl fl_X0_34 rfl rfl rfl rfl rfl (fun h103 hJ103 k103 => ?_)
      refine ev_aload_n rfl rfl rfl ?_
      refine ev_aload_n rfl rfl rfl ?_
      refine ev_iconst (v := 3) rfl rfl (by decide) ?_
      refine ev_ialK (j := 3) (n := 30) (l := 0) (u := 200) hJ103.1 (by decide : B 3 3 3) (by decide) (by decide) (by decide) rfl rfl rfl rfl (fun v104 b104 e104 => ?_)
      refine ev_putW (l := 0) (u := 200) hJ103 rfl b104 (by decide) (by decide) rfl rfl rfl fl_X0_37 rfl rfl rfl rfl rfl (fun h105 hJ105 k105 => ?_)
      refine ev_aload_n rfl rfl rfl ?_
      refine ev_aload_n rfl rfl rfl ?_
      refine ev_iconst (v := 4) rfl rfl (by decide) ?_
      refine ev_ialK (j := 4) (n := 30) (l := (-2147483648)) (u := 2147483647) hJ105.1 (by decide : B 4 4 4) (by decide) (by decide) (by decide) rfl rfl rfl rfl (fun v106 b106 e106 => ?_)
      refine ev_putW (l := (-2147483648)) (u := 2147483647) hJ105 rfl (B.any v106) (by decide) (by decide) rfl rfl rfl fl_X0_40 rfl rfl rfl rfl rfl (fun h107 hJ107 k107 => ?_)
      refine ev_aload_n rfl rfl rfl ?_
      refine ev_aload_n rfl rfl rfl ?_
      refine ev_iconst (v := 5) rfl rfl (by decide) ?_
      refine ev_ialK (j := 5) (n := 30) (l := (-2147483648)) (u := 2147483647) hJ107.1 (by decide : B 5 5 5) (by decide) (by decide) (by decide) rfl rfl rfl rfl (fun v108 b108 e108 => ?_)
      refine ev_putW (l := (-2147483648)) (u := 2147483647) hJ107 rfl (B.any v108) (by decide) (by decide) rfl rfl rfl fl_X0_43 rfl rfl rfl rfl rfl (fun h109 hJ109 k109 => ?_)
      refine ev_aload_n rfl rfl rfl ?_
      refine ev_bipush (v := 6) rfl rfl (by decide) ?_
      refine ev_aload_n rfl rfl rfl ?_
      refine ev_getR (y := 9) rfl rfl fl_X0_48 rfl rfl rfl rfl ?_
      refine ev_iconst (v := 0) rfl rfl (by decide) ?_
      refine ev_bipush (v := 12) rfl rfl (by decide) ?_
      refine ev_cpyW (sN := 6) (dN := 0) (n0 := 30) (n1 := 12) (l := (-2147483648)) (u := 2147483647) (l' := (-2147483648)) (u' := 2147483647) hJ109 (fun _ => rfl) (fun _ => rfl) (by decide) (by decide) (fun _ => rfl) (by decide : B 12 12 12) (by decide) (by decide) (by decide) (by decide) (by decide) (by decide) (by decide) rfl rfl cp_X0_52 rfl rfl rfl rfl rfl rfl (by decide) (fun h110 hJ110 k110 => ?_)
      refine ev_aload_n rfl rfl rfl ?_
      refine ev_bipush (v := 18) rfl rfl (by decide) ?_
      refine ev_aload_n rfl rfl rfl ?_
      refine ev_getR (y := 10) rfl rfl fl_X0_58 rfl rfl rfl rfl ?_
      refine ev_iconst (v := 0) rfl rfl (by decide) ?_
      refine ev_bipush (v := 12) rfl rfl (by decide) ?_
      refine ev_cpyW (sN := 18) (dN := 0) (n0 := 30) (n1 := 12) (l := (-2147483648)) (u := 2147483647) (l' := (-2147483648)) (u' := 2147483647) hJ110 (fun _ => rfl) (fun _ => rfl) (by decide) (by decide) (fun _ => rfl) (by decide : B 12 12 12) (by decide) (by decide) (by decide) (by decide) (by decide) (by decide) (by decide) rfl rfl cp_X0_52 rfl rfl rfl rfl rfl rfl (by decide) (fun h111 hJ111 k111 => ?_)
      refine ev_iconst (v := 1) rfl rfl (by decide) ?_
      exact ev_iret rfl rfl rfl ⟨⟨_, rfl, ((by decide : B 1 1 1).mono (by decide) (by decide))⟩, rfl, hJ111⟩
    · refine ev_aald (y := 20) (j := 7) rfl rfl rfl rfl (by unfold vp_in; decide) (by decide) rfl ?_
      refine ev_astore_n rfl rfl rfl rfl ?_
      dsimp only [List.set]
      refine ev_aload_n rfl rfl rfl ?_
      refine ev_aload_n rfl rfl rfl ?_
      refine ev_iconst (v := 0) rfl rfl (by decide) ?_
      refine ev_ialK (j := 0) (n := 30) (l := 0) (u := 200) hJ13.1 (by decide : B 0 0 0) (by decide) (by decide) (by decide) rfl rfl rfl rfl (fun v112 b112 e112 => ?_)
      refine ev_putW (l := 0) (u := 200) hJ13 rfl b112 (by decide) (by decide) rfl rfl rfl fl_X0_26 rfl rfl rfl rfl rfl (fun h113 hJ113 k113 => ?_)
      refine ev_aload_n rfl rfl rfl ?_
      refine ev_aload_n rfl rfl rfl ?_
      refine ev_iconst (v := 1) rfl rfl (by decide) ?_
      refine ev_ialK (j := 1) (n := 30) (l := (-2147483648)) (u := 2147483647) hJ113.1 (by decide : B 1 1 1) (by decide) (by decide) (by decide) rfl rfl rfl rfl (fun v114 b114 e114 => ?_)
      refine ev_putW (l := (-2147483648)) (u := 2147483647) hJ113 rfl (B.any v114) (by decide) (by decide) rfl rfl rfl fl_X0_31 rfl rfl rfl rfl rfl (fun h115 hJ115 k115 => ?_)
      refine ev_aload_n rfl rfl rfl ?_
      refine ev_aload_n rfl rfl rfl ?_
      refine ev_iconst (v := 2) rfl rfl (by decide) ?_
      refine ev_ialK (j := 2) (n := 30) (l := (-2147483648)) (u := 2147483647) hJ115.1 (by decide : B 2 2 2) (by decide) (by decide) (by decide) rfl rfl rfl rfl (fun v116 b116 e116 => ?_)
      refine ev_putW (l := (-2147483648)) (u := 2147483647) hJ115 rfl (B.any v116) (by decide) (by decide) rfl rfl rfl fl_X0_34 rfl rfl rfl rfl rfl (fun h117 hJ117 k117 => ?_)
      refine ev_aload_n rfl rfl rfl ?_
      refine ev_aload_n rfl rfl rfl ?_
      refine ev_iconst (v := 3) rfl rfl (by decide) ?_
      refine ev_ialK (j := 3) (n := 30) (l := 0) (u := 200) hJ117.1 (by decide : B 3 3 3) (by decide) (by decide) (by decide) rfl rfl rfl rfl (fun v118 b118 e118 => ?_)
      refine ev_putW (l := 0) (u := 200) hJ117 rfl b118 (by decide) (by decide) rfl rfl rfl fl_X0_37 rfl rfl rfl rfl rfl (fun h119 hJ119 k119 => ?_)
      refine ev_aload_n rfl rfl rfl ?_
      refine ev_aload_n rfl rfl rfl ?_
      refine ev_iconst (v := 4) rfl rfl (by decide) ?_
      refine ev_ialK (j := 4) (n := 30) (l := (-2147483648)) (u := 2147483647) hJ119.1 (by decide : B 4 4 4) (by decide) (by decide) (by decide) rfl rfl rfl rfl (fun v120 b120 e120 => ?_)
      refine ev_putW (l := (-2147483648)) (u := 2147483647) hJ119 rfl (B.any v120) (by decide) (by decide) rfl rfl rfl fl_X0_40 rfl rfl rfl rfl rfl (fun h121 hJ121 k121 => ?_)
      refine ev_aload_n rfl rfl rfl ?_
      refine ev_aload_n rfl rfl rfl ?_
      refine ev_iconst (v := 5) rfl rfl (by decide) ?_
      refine ev_ialK (j := 5) (n := 30) (l := (-2147483648)) (u := 2147483647) hJ121.1 (by decide : B 5 5 5) (by decide) (by decide) (by decide) rfl rfl rfl rfl (fun v122 b122 e122 => ?_)
      refine ev_putW (l := (-2147483648)) (u := 2147483647) hJ121 rfl (B.any v122) (by decide) (by decide) rfl rfl rfl fl_X0_43 rfl rfl rfl rfl rfl (fun h123 hJ123 k123 => ?_)
      refine ev_aload_n rfl rfl rfl ?_
      refine ev_bipush (v := 6) rfl rfl (by decide) ?_
      refine ev_aload_n rfl rfl rfl ?_
      refine ev_getR (y := 9) rfl rfl fl_X0_48 rfl rfl rfl rfl ?_
      refine ev_iconst (v := 0) rfl rfl (by decide) ?_
      refine ev_bipush (v := 12) rfl rfl (by decide) ?_
      refine ev_cpyW (sN := 6) (dN := 0) (n0 := 30) (n1 := 12) (l := (-2147483648)) (u := 2147483647) (l' := (-2147483648)) (u' := 2147483647) hJ123 (fun _ => rfl) (fun _ => rfl) (by decide) (by decide) (fun _ => rfl) (by decide : B 12 12 12) (by decide) (by decide) (by decide) (by decide) (by decide) (by decide) (by decide) rfl rfl cp_X0_52 rfl rfl rfl rfl rfl rfl (by decide) (fun h124 hJ124 k124 => ?_)
      refine ev_aload_n rfl rfl rfl ?_
      refine ev_bipush (v := 18) rfl rfl (by decide) ?_
      refine ev_aload_n rfl rfl rfl ?_
      refine ev_getR (y := 10) rfl rfl fl_X0_58 rfl rfl rfl rfl ?_
      refine ev_iconst (v := 0) rfl rfl (by decide) ?_
      refine ev_bipush (v := 12) rfl rfl (by decide) ?_
      refine ev_cpyW (sN := 18) (dN := 0) (n0 := 30) (n1 := 12) (l := (-2147483648)) (u := 2147483647) (l' := (-2147483648)) (u' := 2147483647) hJ124 (fun _ => rfl) (fun _ => rfl) (by decide) (by decide) (fun _ => rfl) (by decide : B 12 12 12) (by decide) (by decide) (by decide) (by decide) (by decide) (by decide) (by decide) rfl rfl cp_X0_52 rfl rfl rfl rfl rfl rfl (by decide) (fun h125 hJ125 k125 => ?_)
      refine ev_iconst (v := 1) rfl rfl (by decide) ?_
      exact ev_iret rfl rfl rfl ⟨⟨_, rfl, ((by decide : B 1 1 1).mono (by decide) (by decide))⟩, rfl, hJ125⟩
    · refine ev_aald (y := 21) (j := 8) rfl rfl rfl rfl (by unfold vp_in; decide) (by decide) rfl ?_
      refine ev_astore_n rfl rfl rfl rfl ?_
      dsimp only [List.set]
      refine ev_aload_n rfl rfl rfl ?_
      refine ev_aload_n rfl rfl rfl ?_
      refine ev_iconst (v := 0) rfl rfl (by decide) ?_
      refine ev_ialK (j := 0) (n := 30) (l := 0) (u := 200) hJ13.1 (by decide : B 0 0 0) (by decide) (by decide) (by decide) rfl rfl rfl rfl (fun v126 b126 e126 => ?_)
      refine ev_putW (l := 0) (u := 200) hJ13 rfl b126 (by decide) (by decide) rfl rfl rfl fl_X0_26 rfl rfl rfl rfl rfl (fun h127 hJ127 k127 => ?_)
      refine ev_aload_n rfl rfl rfl ?_
      refine ev_aload_n rfl rfl rfl ?_
      refine ev_iconst (v := 1) rfl rfl (by decide) ?_
      refine ev_ialK (j := 1) (n := 30) (l := (-2147483648)) (u := 2147483647) hJ127.1 (by decide : B 1 1 1) (by decide) (by decide) (by decide) rfl rfl rfl rfl (fun v128 b128 e128 => ?_)
      refine ev_putW (l := (-2147483648)) (u := 2147483647) hJ127 rfl (B.any v128) (by decide) (by decide) rfl rfl rfl fl_X0_31 rfl rfl rfl rfl rfl (fun h129 hJ129 k129 => ?_)
      refine ev_aload_n rfl rfl rfl ?_
      refine ev_aload_n rfl rfl rfl ?_
      refine ev_iconst (v := 2) rfl rfl (by decide) ?_
      refine ev_ialK (j := 2) (n := 30) (l := (-2147483648)) (u := 2147483647) hJ129.1 (by decide : B 2 2 2) (by decide) (by decide) (by decide) rfl rfl rfl rfl (fun v130 b130 e130 => ?_)
      refine ev_putW (l := (-2147483648)) (u := 2147483647) hJ129 rfl (B.any v130) (by decide) (by decide) rfl rfl rfl fl_X0_34 rfl rfl rfl rfl rfl (fun h131 hJ131 k131 => ?_)
      refine ev_aload_n rfl rfl rfl ?_
      refine ev_aload_n rfl rfl rfl ?_
      refine ev_iconst (v := 3) rfl rfl (by decide) ?_
      refine ev_ialK (j := 3) (n := 30) (l := 0) (u := 200) hJ131.1 (by decide : B 3 3 3) (by decide) (by decide) (by decide) rfl rfl rfl rfl (fun v132 b132 e132 => ?_)
      refine ev_putW (l := 0) (u := 200) hJ131 rfl b132 (by decide) (by decide) rfl rfl rfl fl_X0_37 rfl rfl rfl rfl rfl (fun h133 hJ133 k133 => ?_)
      refine ev_aload_n rfl rfl rfl ?_
      refine ev_aload_n rfl rfl rfl ?_
      refine ev_iconst (v := 4) rfl rfl (by decide) ?_
      refine ev_ialK (j := 4) (n := 30) (l := (-2147483648)) (u := 2147483647) hJ133.1 (by decide : B 4 4 4) (by decide) (by decide) (by decide) rfl rfl rfl rfl (fun v134 b134 e134 => ?_)
      refine ev_putW (l := (-2147483648)) (u := 2147483647) hJ133 rfl (B.any v134) (by decide) (by decide) rfl rfl rfl fl_X0_40 rfl rfl rfl rfl rfl (fun h135 hJ135 k135 => ?_)
      refine ev_aload_n rfl rfl rfl ?_
      refine ev_aload_n rfl rfl rfl ?_
      refine ev_iconst (v := 5) rfl rfl (by decide) ?_
      refine ev_ialK (j := 5) (n := 30) (l := (-2147483648)) (u := 2147483647) hJ135.1 (by decide : B 5 5 5) (by decide) (by decide) (by decide) rfl rfl rfl rfl (fun v136 b136 e136 => ?_)
      refine ev_putW (l := (-2147483648)) (u := 2147483647) hJ135 rfl (B.any v136) (by decide) (by decide) rfl rfl rfl fl_X0_43 rfl rfl rfl rfl rfl (fun h137 hJ137 k137 => ?_)
      refine ev_aload_n rfl rfl rfl ?_
      refine ev_bipush (v := 6) rfl rfl (by decide) ?_
      refine ev_aload_n rfl rfl rfl ?_
      refine ev_getR (y := 9) rfl rfl fl_X0_48 rfl rfl rfl rfl ?_
      refine ev_iconst (v := 0) rfl rfl (by decide) ?_
      refine ev_bipush (v := 12) rfl rfl (by decide) ?_
      refine ev_cpyW (sN := 6) (dN := 0) (n0 := 30) (n1 := 12) (l := (-2147483648)) (u := 2147483647) (l' := (-2147483648)) (u' := 2147483647) hJ137 (fun _ => rfl) (fun _ => rfl) (by decide) (by decide) (fun _ => rfl) (by decide : B 12 12 12) (by decide) (by decide) (by decide) (by decide) (by decide) (by decide) (by decide) rfl rfl cp_X0_52 rfl rfl rfl rfl rfl rfl (by decide) (fun h138 hJ138 k138 => ?_)
      refine ev_aload_n rfl rfl rfl ?_
      refine ev_bipush (v := 18) rfl rfl (by decide) ?_
      refine ev_aload_n rfl rfl rfl ?_
      refine ev_getR (y := 10) rfl rfl fl_X0_58 rfl rfl rfl rfl ?_
      refine ev_iconst (v := 0) rfl rfl (by decide) ?_
      refine ev_bipush (v := 12) rfl rfl (by decide) ?_
      refine ev_cpyW (sN := 18) (dN := 0) (n0 := 30) (n1 := 12) (l := (-2147483648)) (u := 2147483647) (l' := (-2147483648)) (u' := 2147483647) hJ138 (fun _ => rfl) (fun _ => rfl) (by decide) (by decide) (fun _ => rfl) (by decide : B 12 12 12) (by decide) (by decide) (by decide) (by decide) (by decide) (by decide) (by decide) rfl rfl cp_X0_52 rfl rfl rfl rfl rfl rfl (by decide) (fun h139 hJ139 k139 => ?_)
      refine ev_iconst (v := 1) rfl rfl (by decide) ?_
      exact ev_iret rfl rfl rfl ⟨⟨_, rfl, ((by decide : B 1 1 1).mono (by decide) (by decide))⟩, rfl, hJ139⟩
    · refine ev_aald (y := 22) (j := 9) rfl rfl rfl rfl (by unfold vp_in; decide) (by decide) rfl ?_
      refine ev_astore_n rfl rfl rfl rfl ?_
      dsimp only [List.set]
      refine ev_aload_n rfl rfl rfl ?_
      refine ev_aload_n rfl rfl rfl ?_
      refine ev_iconst (v := 0) rfl rfl (by decide) ?_
      refine ev_ialK (j := 0) (n := 30) (l := 0) (u := 200) hJ13.1 (by decide : B 0 0 0) (by decide) (by decide) (by decide) rfl rfl rfl rfl (fun v140 b140 e140 => ?_)
      refine ev_putW (l := 0) (u := 200) hJ13 rfl b140 (by decide) (by decide) rfl rfl rfl fl_X0_26 rfl rfl rfl rfl rfl (fun h141 hJ141 k141 => ?_)
      refine ev_aload_n rfl rfl rfl ?_
      refine ev_aload_n rfl rfl rfl ?_
      refine ev_iconst (v := 1) rfl rfl (by decide) ?_
      refine ev_ialK (j := 1) (n := 30) (l := (-2147483648)) (u := 2147483647) hJ141.1 (by decide : B 1 1 1) (by decide) (by decide) (by decide) rfl rfl rfl rfl (fun v142 b142 e142 => ?_)
      refine ev_putW (l := (-2147483648)) (u := 2147483647) hJ141 rfl (B.any v142) (by decide) (by decide) rfl rfl rfl fl_X0_31 rfl rfl rfl rfl rfl (fun h143 hJ143 k143 => ?_)
      refine ev_aload_n rfl rfl rfl ?_
      refine ev_aload_n rfl rfl rfl ?_
      refine ev_iconst (v := 2) rfl rfl (by decide) ?_
      refine ev_ialK (j := 2) (n := 30) (l := (-2147483648)) (u := 2147483647) hJ143.1 (by decide : B 2 2 2) (by decide) (by decide) (by decide) rfl rfl rfl rfl (fun v144 b144 e144 => ?_)
      refine ev_putW (l := (-2147483648)) (u := 2147483647) hJ143 rfl (B.any v144) (by decide) (by decide) rfl rfl rfl fl_X0_34 rfl rfl rfl rfl rfl (fun h145 hJ145 k145 => ?_)
      refine ev_aload_n rfl rfl rfl ?_
      refine ev_aload_n rfl rfl rfl ?_
      refine ev_iconst (v := 3) rfl rfl (by decide) ?_
      refine ev_ialK (j := 3) (n := 30) (l := 0) (u := 200) hJ145.1 (by decide : B 3 3 3) (by decide) (by decide) (by decide) rfl rfl rfl rfl (fun v146 b146 e146 => ?_)
      refine ev_putW (l := 0) (u := 200) hJ145 rfl b146 (by decide) (by decide) rfl rfl rfl fl_X0_37 rfl rfl rfl rfl rfl (fun h147 hJ147 k147 => ?_)
      refine ev_aload_n rfl rfl rfl ?_
      refine ev_aload_n rfl rfl rfl ?_
      refine ev_iconst (v := 4) rfl rfl (by decide) ?_
      refine ev_ialK (j := 4) (n := 30) (l := (-2147483648)) (u := 2147483647) hJ147.1 (by decide : B 4 4 4) (by decide) (by decide) (by decide) rfl rfl rfl rfl (fun v148 b148 e148 => ?_)
      refine ev_putW (l := (-2147483648)) (u := 2147483647) hJ147 rfl (B.any v148) (by decide) (by decide) rfl rfl rfl fl_X0_40 rfl rfl rfl rfl rfl (fun h149 hJ149 k149 => ?_)
      refine ev_aload_n rfl rfl rfl ?_
      refine ev_aload_n rfl rfl rfl ?_
      refine ev_iconst (v := 5) rfl rfl (by decide) ?_
      refine ev_ialK (j := 5) (n := 30) (l := (-2147483648)) (u := 2147483647) hJ149.1 (by decide : B 5 5 5) (by decide) (by decide) (by decide) rfl rfl rfl rfl (fun v150 b150 e150 => ?_)
      refine ev_putW (l := (-2147483648)) (u := 2147483647) hJ149 rfl (B.any v150) (by decide) (by decide) rfl rfl rfl fl_X0_43 rfl rfl rfl rfl rfl (fun h151 hJ151 k151 => ?_)
      refine ev_aload_n rfl rfl rfl ?_
      refine ev_bipush (v := 6) rfl rfl (by decide) ?_
      refine ev_aload_n rfl rfl rfl ?_
      refine ev_getR (y := 9) rfl rfl fl_X0_48 rfl rfl rfl rfl ?_
      refine ev_iconst (v := 0) rfl rfl (by decide) ?_
      refine ev_bipush (v := 12) rfl rfl (by decide) ?_
      refine ev_cpyW (sN := 6) (dN := 0) (n0 := 30) (n1 := 12) (l := (-2147483648)) (u := 2147483647) (l' := (-2147483648)) (u' := 2147483647) hJ151 (fun _ => rfl) (fun _ => rfl) (by decide) (by decide) (fun _ => rfl) (by decide : B 12 12 12) (by decide) (by decide) (by decide) (by decide) (by decide) (by decide) (by decide) rfl rfl cp_X0_52 rfl rfl rfl rfl rfl rfl (by decide) (fun h152 hJ152 k152 => ?_)
      refine ev_aload_n rfl rfl rfl ?_
      refine ev_bipush (v := 18) rfl rfl (by decide) ?_
      refine ev_aload_n rfl rfl rfl ?_
      refine ev_getR (y := 10) rfl rfl fl_X0_58 rfl rfl rfl rfl ?_
      refine ev_iconst (v := 0) rfl rfl (by decide) ?_
      refine ev_bipush (v := 12) rfl rfl (by decide) ?_
      refine ev_cpyW (sN := 18) (dN := 0) (n0 := 30) (n1 := 12) (l := (-2147483648)) (u := 2147483647) (l' := (-2147483648)) (u' := 2147483647) hJ152 (fun _ => rfl) (fun _ => rfl) (by decide) (by decide) (fun _ => rfl) (by decide : B 12 12 12) (by decide) (by decide) (by decide) (by decide) (by decide) (by decide) (by decide) rfl rfl cp_X0_52 rfl rfl rfl rfl rfl rfl (by decide) (fun h153 hJ153 k153 => ?_)
      refine ev_iconst (v := 1) rfl rfl (by decide) ?_
      exact ev_iret rfl rfl rfl ⟨⟨_, rfl, ((by decide : B 1 1 1).mono (by decide) (by decide))⟩, rfl, hJ153⟩
  · have b3 : B v1 0 0 := R_eqX (B.any v1) (by decide : B 0 0 0) c2
    refine ev_iconst (v := 0) rfl rfl (by decide) ?_
    exact ev_iret rfl rfl rfl ⟨⟨_, rfl, ((by decide : B 0 0 0).mono (by decide) (by decide))⟩, rfl, hJ0⟩

set_option maxRecDepth 100000 in
set_option maxHeartbeats 4000000 in
theorem w_X9_fire_1 (L : Nat) (b : Bool) (h : Hp) (hB : Bx h) (a0 : Int32) : EvJ mi_X9_fire [.ref 1, .int a0] (G0 L b) h (fun r : Int32 => B r (-2147483648) 2147483647) [(2, 2), (11, 1), (11, 2), (11, 3), (13, 999), (14, 999), (15, 999), (16, 999), (17, 999), (18, 999), (19, 999), (20, 999), (21, 999), (22, 999)] := by
  refine EvM.of2 (lo := [some (.ref 1), some (.int a0), none]) pf_X9_fire ok_X9_fire rfl rfl ?_
  have hJ0 : JW [(2, 2), (11, 1), (11, 2), (11, 3), (13, 999), (14, 999), (15, 999), (16, 999), (17, 999), (18, 999), (19, 999), (20, 999), (21, 999), (22, 999)] h h := JW.refl hB
  refine ev_iload_n rfl rfl rfl ?_
  refine ev_iconst (v := 0) rfl rfl (by decide) ?_
  refine ev_bipush (v := 9) rfl rfl (by decide) ?_
  refine ev_S3P rfl rfl lk_X9_75 st_X9_isWithin rfl rfl (w_isWithin (G0 L b) h a0 0 9 (by decide : B 0 0 0) (by decide : B 9 9 9)) (fun r1 q1 => ?_)
  obtain ⟨b1, p1_0⟩ := q1
  refine ev_if_ne rfl rfl (fun c2 => ?_) (fun c2 => ?_)
  · have b3 : B r1 1 1 := R_neL b1 (by decide : B 0 0 0) c2 (by decide)
    have b4 : B a0 0 9 := p1_0 c2
    refine ev_aload_n rfl rfl rfl ?_
    refine ev_getR (y := 11) rfl rfl fl_X9_29 rfl rfl rfl rfl ?_
    refine ev_aload_n rfl rfl rfl ?_
    refine ev_getR (y := 2) rfl rfl fl_X9_10 rfl rfl rfl rfl ?_
    refine ev_aload_n rfl rfl rfl ?_
    refine ev_getR (y := 4) rfl rfl fl_X9_22 rfl rfl rfl rfl ?_
    refine ev_V2N hJ0 rfl rfl rfl lk_X9_79 vt_X0_keep rfl rfl rfl rfl rfl (w_X0_keep_11_2_4 L b h hJ0.1 ) (fun h6 hJ6 k6  => ?_)
    refine ev_aload_n rfl rfl rfl ?_
    refine ev_getR (y := 2) rfl rfl fl_X9_10 rfl rfl rfl rfl ?_
    refine ev_getW (l := (-2147483648)) (u := 2147483647) hJ6.1 rfl rfl rfl fl_X9_83 rfl rfl rfl (fun v7 b7 e7 => ?_)
    refine ev_istore_n rfl rfl rfl rfl ?_
    dsimp only [List.set]
    refine ev_aload_n rfl rfl rfl ?_
    refine ev_getR (y := 2) rfl rfl fl_X9_10 rfl rfl rfl rfl ?_
    refine ev_iload_n rfl rfl rfl ?_
    refine ev_putW (l := (-2147483648)) (u := 2147483647) hJ6 rfl b4 (by decide) (by decide) rfl rfl rfl fl_X9_83 rfl rfl rfl rfl rfl (fun h8 hJ8 k8 => ?_)
    refine ev_iload_n rfl rfl rfl ?_
    exact ev_iret rfl rfl rfl ⟨⟨_, rfl, (B.any v7)⟩, rfl, hJ8⟩
  · have b5 : B r1 0 0 := R_eqX b1 (by decide : B 0 0 0) c2
    refine ev_iconst (v := (-1)) rfl rfl (by decide) ?_
    exact ev_iret rfl rfl rfl ⟨⟨_, rfl, ((by decide : B (-1) (-1) (-1)).mono (by decide) (by decide))⟩, rfl, hJ0⟩

set_option maxRecDepth 100000 in
set_option maxHeartbeats 4000000 in
theorem w_X9_water_1 (L : Nat) (b : Bool) (h : Hp) (hB : Bx h) (a0 : Int32) : EvJ mi_X9_water [.ref 1, .int a0] (G0 L b) h (fun r : Int32 => B r (-2147483648) 9999) [(2, 1), (11, 1), (11, 2), (11, 3), (13, 999), (14, 999), (15, 999), (16, 999), (17, 999), (18, 999), (19, 999), (20, 999), (21, 999), (22, 999)] := by
  refine EvM.of2 (lo := [some (.ref 1), some (.int a0)]) pf_X9_water ok_X9_water rfl rfl ?_
  have hJ0 : JW [(2, 1), (11, 1), (11, 2), (11, 3), (13, 999), (14, 999), (15, 999), (16, 999), (17, 999), (18, 999), (19, 999), (20, 999), (21, 999), (22, 999)] h h := JW.refl hB
  refine ev_iload_n rfl rfl rfl ?_
  refine ev_iconst (v := 1) rfl rfl (by decide) ?_
  refine ev_sipush (v := 9999) rfl rfl (by decide) ?_
  refine ev_S3P rfl rfl lk_X9_75 st_X9_isWithin rfl rfl (w_isWithin (G0 L b) h a0 1 9999 (by decide : B 1 1 1) (by decide : B 9999 9999 9999)) (fun r1 q1 => ?_)
  obtain ⟨b1, p1_0⟩ := q1
  refine ev_if_ne rfl rfl (fun c2 => ?_) (fun c2 => ?_)
  · have b3 : B r1 1 1 := R_neL b1 (by decide : B 0 0 0) c2 (by decide)
    have b4 : B a0 1 9999 := p1_0 c2
    refine ev_aload_n rfl rfl rfl ?_
    refine ev_getR (y := 11) rfl rfl fl_X9_29 rfl rfl rfl rfl ?_
    refine ev_aload_n rfl rfl rfl ?_
    refine ev_getR (y := 2) rfl rfl fl_X9_10 rfl rfl rfl rfl ?_
    refine ev_aload_n rfl rfl rfl ?_
    refine ev_getR (y := 4) rfl rfl fl_X9_22 rfl rfl rfl rfl ?_
    refine ev_V2N hJ0 rfl rfl rfl lk_X9_79 vt_X0_keep rfl rfl rfl rfl rfl (w_X0_keep_11_2_4 L b h hJ0.1 ) (fun h6 hJ6 k6  => ?_)
    refine ev_aload_n rfl rfl rfl ?_
    refine ev_getR (y := 2) rfl rfl fl_X9_10 rfl rfl rfl rfl ?_
    refine ev_sipush (v := 9999) rfl rfl (by decide) ?_
    refine ev_aload_n rfl rfl rfl ?_
    refine ev_getR (y := 2) rfl rfl fl_X9_10 rfl rfl rfl rfl ?_
    refine ev_getW (l := (-2147483648)) (u := 2147483647) hJ6.1 rfl rfl rfl fl_X9_87 rfl rfl rfl (fun v7 b7 e7 => ?_)
    refine ev_iload_n rfl rfl rfl ?_
    refine ev_iaddA rfl rfl (fun v8 g8 => ?_)
    refine ev_S2P rfl rfl lk_X9_90 st_J9_min_7cf53 rfl rfl (w_min (l := (-2147483648)) (u := 9999) (G0 L b) h6 9999 v8 (by decide : B 9999 9999 9999) (B.any v8) (by decide) (by decide) (Or.inl (by decide))) (fun r9 q9 => ?_)
    refine ev_putW (l := (-2147483648)) (u := 2147483647) hJ6 rfl q9 (by decide) (by decide) rfl rfl rfl fl_X9_87 rfl rfl rfl rfl rfl (fun h10 hJ10 k10 => ?_)
    refine ev_aload_n rfl rfl rfl ?_
    refine ev_getR (y := 2) rfl rfl fl_X9_10 rfl rfl rfl rfl ?_
    refine ev_getV (v := r9) rfl rfl fl_X9_87 rfl rfl rfl (rd_s k10) ?_
    exact ev_iret rfl rfl rfl ⟨⟨_, rfl, q9⟩, rfl, hJ10⟩
  · have b5 : B r1 0 0 := R_eqX b1 (by decide : B 0 0 0) c2
    refine ev_iconst (v := (-1)) rfl rfl (by decide) ?_
    exact ev_iret rfl rfl rfl ⟨⟨_, rfl, ((by decide : B (-1) (-1) (-1)).mono (by decide) (by decide))⟩, rfl, hJ0⟩

set_option maxRecDepth 100000 in
set_option maxHeartbeats 4000000 in
theorem w_X9_valve_1 (L : Nat) (b : Bool) (h : Hp) (hB : Bx h) (a0 : Int32) : EvJ mi_X9_valve [.ref 1, .int a0] (G0 L b) h (fun r : Int32 => B r (-1) 200) [(2, 0), (2, 3), (11, 1), (11, 2), (11, 3), (13, 999), (14, 999), (15, 999), (16, 999), (17, 999), (18, 999), (19, 999), (20, 999), (21, 999), (22, 999)] := by
  refine EvM.of2 (lo := [some (.ref 1), some (.int a0), none]) pf_X9_valve ok_X9_valve rfl rfl ?_
  have hJ0 : JW [(2, 0), (2, 3), (11, 1), (11, 2), (11, 3), (13, 999), (14, 999), (15, 999), (16, 999), (17, 999), (18, 999), (19, 999), (20, 999), (21, 999), (22, 999)] h h := JW.refl hB
  refine ev_iload_n rfl rfl rfl ?_
  refine ev_bipush (v := 50) rfl rfl (by decide) ?_
  refine ev_sipush (v := 200) rfl rfl (by decide) ?_
  refine ev_S3P rfl rfl lk_X9_75 st_X9_isWithin rfl rfl (w_isWithin (G0 L b) h a0 50 200 (by decide : B 50 50 50) (by decide : B 200 200 200)) (fun r1 q1 => ?_)
  obtain ⟨b1, p1_0⟩ := q1
  refine ev_if_ne rfl rfl (fun c2 => ?_) (fun c2 => ?_)
  · have b3 : B r1 1 1 := R_neL b1 (by decide : B 0 0 0) c2 (by decide)
    have b4 : B a0 50 200 := p1_0 c2
    refine ev_aload_n rfl rfl rfl ?_
    refine ev_getR (y := 11) rfl rfl fl_X9_29 rfl rfl rfl rfl ?_
    refine ev_aload_n rfl rfl rfl ?_
    refine ev_getR (y := 2) rfl rfl fl_X9_10 rfl rfl rfl rfl ?_
    refine ev_aload_n rfl rfl rfl ?_
    refine ev_getR (y := 4) rfl rfl fl_X9_22 rfl rfl rfl rfl ?_
    refine ev_V2N hJ0 rfl rfl rfl lk_X9_79 vt_X0_keep rfl rfl rfl rfl rfl (w_X0_keep_11_2_4 L b h hJ0.1 ) (fun h6 hJ6 k6  => ?_)
    refine ev_aload_n rfl rfl rfl ?_
    refine ev_getR (y := 2) rfl rfl fl_X9_10 rfl rfl rfl rfl ?_
    refine ev_getW (l := 0) (u := 200) hJ6.1 rfl rfl rfl fl_X9_96 rfl rfl rfl (fun v7 b7 e7 => ?_)
    refine ev_istore_n rfl rfl rfl rfl ?_
    dsimp only [List.set]
    refine ev_aload_n rfl rfl rfl ?_
    refine ev_getR (y := 2) rfl rfl fl_X9_10 rfl rfl rfl rfl ?_
    refine ev_iload_n rfl rfl rfl ?_
    refine ev_putW (l := 0) (u := 200) hJ6 rfl b4 (by decide) (by decide) rfl rfl rfl fl_X9_96 rfl rfl rfl rfl rfl (fun h8 hJ8 k8 => ?_)
    refine ev_aload_n rfl rfl rfl ?_
    refine ev_getR (y := 2) rfl rfl fl_X9_10 rfl rfl rfl rfl ?_
    refine ev_aload_n rfl rfl rfl ?_
    refine ev_getR (y := 2) rfl rfl fl_X9_10 rfl rfl rfl rfl ?_
    refine ev_getW (l := 0) (u := 200) hJ8.1 rfl rfl rfl fl_X9_99 rfl rfl rfl (fun v9 b9 e9 => ?_)
    refine ev_iload_n rfl rfl rfl ?_
    refine ev_S2P rfl rfl lk_X9_90 st_J9_min_7cf53 rfl rfl (w_min (l := 0) (u := 200) (G0 L b) h8 v9 a0 b9 b4 (by decide) (by decide) (Or.inl (by decide))) (fun r10 q10 => ?_)
    refine ev_putW (l := 0) (u := 200) hJ8 rfl q10 (by decide) (by decide) rfl rfl rfl fl_X9_99 rfl rfl rfl rfl rfl (fun h11 hJ11 k11 => ?_)
    refine ev_iload_n rfl rfl rfl ?_
    exact ev_iret rfl rfl rfl ⟨⟨_, rfl, (b7.mono (by decide) (by decide))⟩, rfl, hJ11⟩
  · have b5 : B r1 0 0 := R_eqX b1 (by decide : B 0 0 0) c2
    refine ev_iconst (v := (-1)) rfl rfl (by decide) ?_
    exact ev_iret rfl rfl rfl ⟨⟨_, rfl, ((by decide : B (-1) (-1) (-1)).mono (by decide) (by decide))⟩, rfl, hJ0⟩

set_option maxRecDepth 100000 in
set_option maxHeartbeats 4000000 in
theorem w_X9_pressure_1 (L : Nat) (b : Bool) (h : Hp) (hB : Bx h) (a0 : Int32) : EvJ mi_X9_pressure [.ref 1, .int a0] (G0 L b) h (fun r : Int32 => B r (-1) 200) [(2, 0), (11, 1), (11, 2), (11, 3), (13, 999), (14, 999), (15, 999), (16, 999), (17, 999), (18, 999), (19, 999), (20, 999), (21, 999), (22, 999)] := by
  refine EvM.of2 (lo := [some (.ref 1), some (.int a0), none]) pf_X9_pressure ok_X9_pressure rfl rfl ?_
  have hJ0 : JW [(2, 0), (11, 1), (11, 2), (11, 3), (13, 999), (14, 999), (15, 999), (16, 999), (17, 999), (18, 999), (19, 999), (20, 999), (21, 999), (22, 999)] h h := JW.refl hB
  refine ev_iload_n rfl rfl rfl ?_
  refine ev_iconst (v := 0) rfl rfl (by decide) ?_
  refine ev_aload_n rfl rfl rfl ?_
  refine ev_getR (y := 2) rfl rfl fl_X9_10 rfl rfl rfl rfl ?_
  refine ev_getW (l := 0) (u := 200) hJ0.1 rfl rfl rfl fl_X9_96 rfl rfl rfl (fun v1 b1 e1 => ?_)
  refine ev_S3P rfl rfl lk_X9_75 st_X9_isWithin rfl rfl (w_isWithin (G0 L b) h a0 0 v1 (by decide : B 0 0 0) b1) (fun r2 q2 => ?_)
  obtain ⟨b2, p2_0⟩ := q2
  refine ev_if_ne rfl rfl (fun c3 => ?_) (fun c3 => ?_)
  · have b4 : B r2 1 1 := R_neL b2 (by decide : B 0 0 0) c3 (by decide)
    have b5 : B a0 0 200 := p2_0 c3
    refine ev_aload_n rfl rfl rfl ?_
    refine ev_getR (y := 11) rfl rfl fl_X9_29 rfl rfl rfl rfl ?_
    refine ev_aload_n rfl rfl rfl ?_
    refine ev_getR (y := 2) rfl rfl fl_X9_10 rfl rfl rfl rfl ?_
    refine ev_aload_n rfl rfl rfl ?_
    refine ev_getR (y := 4) rfl rfl fl_X9_22 rfl rfl rfl rfl ?_
    refine ev_V2N hJ0 rfl rfl rfl lk_X9_79 vt_X0_keep rfl rfl rfl rfl rfl (w_X0_keep_11_2_4 L b h hJ0.1 ) (fun h7 hJ7 k7  => ?_)
    refine ev_aload_n rfl rfl rfl ?_
    refine ev_getR (y := 2) rfl rfl fl_X9_10 rfl rfl rfl rfl ?_
    refine ev_getW (l := 0) (u := 200) hJ7.1 rfl rfl rfl fl_X9_99 rfl rfl rfl (fun v8 b8 e8 => ?_)
    refine ev_istore_n rfl rfl rfl rfl ?_
    dsimp only [List.set]
    refine ev_aload_n rfl rfl rfl ?_
    refine ev_getR (y := 2) rfl rfl fl_X9_10 rfl rfl rfl rfl ?_
    refine ev_iload_n rfl rfl rfl ?_
    refine ev_putW (l := 0) (u := 200) hJ7 rfl b5 (by decide) (by decide) rfl rfl rfl fl_X9_99 rfl rfl rfl rfl rfl (fun h9 hJ9 k9 => ?_)
    refine ev_iload_n rfl rfl rfl ?_
    exact ev_iret rfl rfl rfl ⟨⟨_, rfl, (b8.mono (by decide) (by decide))⟩, rfl, hJ9⟩
  · have b6 : B r2 0 0 := R_eqX b2 (by decide : B 0 0 0) c3
    refine ev_iconst (v := (-1)) rfl rfl (by decide) ?_
    exact ev_iret rfl rfl rfl ⟨⟨_, rfl, ((by decide : B (-1) (-1) (-1)).mono (by decide) (by decide))⟩, rfl, hJ0⟩

set_option maxRecDepth 100000 in
set_option maxHeartbeats 4000000 in
theorem w_X9_beat_1 (L : Nat) (b : Bool) (h : Hp) (hB : Bx h) (a0 : Int32) : EvJ mi_X9_beat [.ref 1, .int a0] (G0 L b) h (fun r : Int32 => B r (-5) 2147483647) [(2, 0), (2, 1), (2, 4), (11, 1), (11, 2), (11, 3), (13, 999), (14, 999), (15, 999), (16, 999), (17, 999), (18, 999), (19, 999), (20, 999), (21, 999), (22, 999)] := by
  refine EvM.of2 (lo := [some (.ref 1), some (.int a0), none, none]) pf_X9_beat ok_X9_beat rfl rfl ?_
  have hJ0 : JW [(2, 0), (2, 1), (2, 4), (11, 1), (11, 2), (11, 3), (13, 999), (14, 999), (15, 999), (16, 999), (17, 999), (18, 999), (19, 999), (20, 999), (21, 999), (22, 999)] h h := JW.refl hB
  refine ev_aload_n rfl rfl rfl ?_
  refine ev_getR (y := 4) rfl rfl fl_X9_22 rfl rfl rfl rfl ?_
  refine ev_iload_n rfl rfl rfl ?_
  refine ev_V1P rfl rfl lk_X9_111 vt_X8_hasAll rfl rfl rfl rfl rfl (w_X8_hasAll_4 L b h hJ0.1 a0) (fun r1 q1 => ?_)
  refine ev_if_ne rfl rfl (fun c2 => ?_) (fun c2 => ?_)
  · have b3 : B r1 1 1 := R_neL q1 (by decide : B 0 0 0) c2 (by decide)
    refine ev_aload_n rfl rfl rfl ?_
    refine ev_getR (y := 4) rfl rfl fl_X9_22 rfl rfl rfl rfl ?_
    refine ev_iload_n rfl rfl rfl ?_
    refine ev_aload_n rfl rfl rfl ?_
    refine ev_getR (y := 4) rfl rfl fl_X9_22 rfl rfl rfl rfl ?_
    refine ev_getW (l := (-2147483648)) (u := 2147483647) hJ0.1 rfl rfl rfl fl_X9_105 rfl rfl rfl (fun v5 b5 e5 => ?_)
    refine ev_V2P rfl rfl lk_X9_108 vt_X8_drawnBy rfl rfl rfl rfl rfl (w_X8_drawnBy_4 L b h hJ0.1 a0 v5) (fun r6 q6 => ?_)
    refine ev_istore_n rfl rfl rfl rfl ?_
    dsimp only [List.set]
    refine ev_iload_n rfl rfl rfl ?_
    refine ev_aload_n rfl rfl rfl ?_
    refine ev_getR (y := 2) rfl rfl fl_X9_10 rfl rfl rfl rfl ?_
    refine ev_getW (l := (-2147483648)) (u := 2147483647) hJ0.1 rfl rfl rfl fl_X9_87 rfl rfl rfl (fun v7 b7 e7 => ?_)
    refine ev_icmp_le rfl rfl (fun c8 => ?_) (fun c8 => ?_)
    · refine ev_aload_n rfl rfl rfl ?_
      refine ev_getR (y := 11) rfl rfl fl_X9_29 rfl rfl rfl rfl ?_
      refine ev_aload_n rfl rfl rfl ?_
      refine ev_getR (y := 2) rfl rfl fl_X9_10 rfl rfl rfl rfl ?_
      refine ev_aload_n rfl rfl rfl ?_
      refine ev_getR (y := 4) rfl rfl fl_X9_22 rfl rfl rfl rfl ?_
      refine ev_V2N hJ0 rfl rfl rfl lk_X9_79 vt_X0_keep rfl rfl rfl rfl rfl (w_X0_keep_11_2_4 L b h hJ0.1 ) (fun h11 hJ11 k11  => ?_)
      refine ev_aload_n rfl rfl rfl ?_
      refine ev_getR (y := 4) rfl rfl fl_X9_22 rfl rfl rfl rfl ?_
      refine ev_iload_n rfl rfl rfl ?_
      refine ev_aload_n rfl rfl rfl ?_
      refine ev_getR (y := 2) rfl rfl fl_X9_10 rfl rfl rfl rfl ?_
      refine ev_getW (l := 0) (u := 200) hJ11.1 rfl rfl rfl fl_X9_99 rfl rfl rfl (fun v12 b12 e12 => ?_)
      refine ev_V2P rfl rfl lk_X9_115 vt_X8_strayOf rfl rfl rfl rfl rfl (w_X8_strayOf_4 L b h11 hJ11.1 a0 v12) (fun r13 q13 => ?_)
      refine ev_istore_n rfl rfl rfl rfl ?_
      dsimp only [List.set]
      refine ev_aload_n rfl rfl rfl ?_
      refine ev_getR (y := 2) rfl rfl fl_X9_10 rfl rfl rfl rfl ?_
      refine ev_iload_n rfl rfl rfl ?_
      refine ev_V1N hJ11 rfl rfl rfl lk_X9_118 vt_X1_pass rfl rfl rfl rfl rfl (w_X1_pass_2 L b h11 hJ11.1 r6) (fun h14 hJ14 k14  => ?_)
      refine ev_iload_n rfl rfl rfl ?_
      exact ev_iret rfl rfl rfl ⟨⟨_, rfl, (q13.mono (by decide) (by decide))⟩, rfl, hJ14⟩
    · have b9 : B r6 (-2147483647) 2147483647 := R_ltY (B.any v7) (B.any r6) (Int32.not_le.mp c8) (by decide)
      have b10 : B v7 (-2147483648) 2147483646 := R_ltX (B.any v7) (B.any r6) (Int32.not_le.mp c8) (by decide)
      refine ev_bipush (v := (-5)) rfl rfl (by decide) ?_
      exact ev_iret rfl rfl rfl ⟨⟨_, rfl, ((by decide : B (-5) (-5) (-5)).mono (by decide) (by decide))⟩, rfl, hJ0⟩
  · have b4 : B r1 0 0 := R_eqX q1 (by decide : B 0 0 0) c2
    refine ev_iconst (v := (-1)) rfl rfl (by decide) ?_
    exact ev_iret rfl rfl rfl ⟨⟨_, rfl, ((by decide : B (-1) (-1) (-1)).mono (by decide) (by decide))⟩, rfl, hJ0⟩

set_option maxRecDepth 100000 in
set_option maxHeartbeats 4000000 in
theorem w_X9_whistle_1 (L : Nat) (b : Bool) (h : Hp) (hB : Bx h) (a0 : Int32) (a1 : Int32) (a2 : Int32) (a3 : Int32) (p3 : B a3 0 1) : EvJ mi_X9_whistle [.ref 1, .int a0, .int a1, .int a2, .int a3] (G0 L b) h (fun r : Int32 => B r (-3) 11) [(4, 7), (5, 999), (6, 999), (7, 999), (8, 999)] := by
  refine EvM.of2 (lo := [some (.ref 1), some (.int a0), some (.int a1), some (.int a2), some (.int a3)]) pf_X9_whistle ok_X9_whistle rfl rfl ?_
  have hJ0 : JW [(4, 7), (5, 999), (6, 999), (7, 999), (8, 999)] h h := JW.refl hB
  refine ev_aload_n rfl rfl rfl ?_
  refine ev_getR (y := 4) rfl rfl fl_X9_22 rfl rfl rfl rfl ?_
  refine ev_iload_n rfl rfl rfl ?_
  refine ev_iload_n rfl rfl rfl ?_
  refine ev_iload_n rfl rfl rfl ?_
  refine ev_iload rfl rfl rfl ?_
  refine ev_V4J hJ0 rfl rfl rfl lk_X9_122 vt_X8_add rfl rfl rfl rfl rfl (w_X8_add_4 L b h hJ0.1 a0 a1 a2 a3 p3) (fun r1 h1 q1 hJ1 k1 => ?_)
  exact ev_iret rfl rfl rfl ⟨⟨_, rfl, q1⟩, rfl, hJ1⟩

set_option maxRecDepth 100000 in
set_option maxHeartbeats 4000000 in
theorem w_X9_stem_1 (L : Nat) (b : Bool) (h : Hp) (hB : Bx h) (a0 : Int32) (a1 : Int32) : EvJ mi_X9_stem [.ref 1, .int a0, .int a1] (G0 L b) h (fun r : Int32 => B r (-2147483648) 2147483647) [(9, 999), (11, 1), (11, 2), (11, 3), (13, 999), (14, 999), (15, 999), (16, 999), (17, 999), (18, 999), (19, 999), (20, 999), (21, 999), (22, 999)] := by
  refine EvM.of2 (lo := [some (.ref 1), some (.int a0), some (.int a1), none]) pf_X9_stem ok_X9_stem rfl rfl ?_
  have hJ0 : JW [(9, 999), (11, 1), (11, 2), (11, 3), (13, 999), (14, 999), (15, 999), (16, 999), (17, 999), (18, 999), (19, 999), (20, 999), (21, 999), (22, 999)] h h := JW.refl hB
  refine ev_aload_n rfl rfl rfl ?_
  refine ev_getR (y := 4) rfl rfl fl_X9_22 rfl rfl rfl rfl ?_
  refine ev_iload_n rfl rfl rfl ?_
  refine ev_V1P rfl rfl lk_X9_126 vt_X8_has rfl rfl rfl rfl rfl (w_X8_has_4 L b h hJ0.1 a0) (fun r1 q1 => ?_)
  obtain ⟨b1, p1_0⟩ := q1
  refine ev_if_eq rfl rfl (fun c2 => ?_) (fun c2 => ?_)
  · have b3 : B r1 0 0 := R_eqX b1 (by decide : B 0 0 0) c2
    refine ev_sipush (v := (-10000)) rfl rfl (by decide) ?_
    exact ev_iret rfl rfl rfl ⟨⟨_, rfl, ((by decide : B (-10000) (-10000) (-10000)).mono (by decide) (by decide))⟩, rfl, hJ0⟩
  · have b4 : B r1 1 1 := R_neL b1 (by decide : B 0 0 0) c2 (by decide)
    have b5 : B a0 0 11 := p1_0 c2
    refine ev_iload_n rfl rfl rfl ?_
    refine ev_bipush (v := (-100)) rfl rfl (by decide) ?_
    refine ev_bipush (v := 100) rfl rfl (by decide) ?_
    refine ev_S3P rfl rfl lk_X9_75 st_X9_isWithin rfl rfl (w_isWithin (G0 L b) h a1 (-100) 100 (by decide : B (-100) (-100) (-100)) (by decide : B 100 100 100)) (fun r6 q6 => ?_)
    obtain ⟨b6, p6_0⟩ := q6
    refine ev_if_ne rfl rfl (fun c7 => ?_) (fun c7 => ?_)
    · have b8 : B r6 1 1 := R_neL b6 (by decide : B 0 0 0) c7 (by decide)
      have b9 : B a1 (-100) 100 := p6_0 c7
      refine ev_aload_n rfl rfl rfl ?_
      refine ev_getR (y := 4) rfl rfl fl_X9_22 rfl rfl rfl rfl ?_
      refine ev_getR (y := 8) rfl rfl fl_X9_139 rfl rfl rfl rfl ?_
      refine ev_iload_n rfl rfl rfl ?_
      refine ev_zalW (n := 12) (l := (-2147483648)) (u := 2147483647) hJ0.1 b5 (by decide) (by decide) (fun _ => rfl) rfl rfl rfl (fun v11 b11 e11 => ?_)
      refine ev_if_eq rfl rfl (fun c12 => ?_) (fun c12 => ?_)
      · have b13 : B v11 0 0 := R_eqX (B.any v11) (by decide : B 0 0 0) c12
        refine ev_aload_n rfl rfl rfl ?_
        refine ev_getR (y := 11) rfl rfl fl_X9_29 rfl rfl rfl rfl ?_
        refine ev_aload_n rfl rfl rfl ?_
        refine ev_getR (y := 2) rfl rfl fl_X9_10 rfl rfl rfl rfl ?_
        refine ev_aload_n rfl rfl rfl ?_
        refine ev_getR (y := 4) rfl rfl fl_X9_22 rfl rfl rfl rfl ?_
        refine ev_V2N hJ0 rfl rfl rfl lk_X9_79 vt_X0_keep rfl rfl rfl rfl rfl (w_X0_keep_11_2_4 L b h hJ0.1 ) (fun h14 hJ14 k14  => ?_)
        refine ev_aload_n rfl rfl rfl ?_
        refine ev_getR (y := 4) rfl rfl fl_X9_22 rfl rfl rfl rfl ?_
        refine ev_getR (y := 9) rfl rfl fl_X9_143 rfl rfl rfl rfl ?_
        refine ev_iload_n rfl rfl rfl ?_
        refine ev_ialW (n := 12) (l := (-2147483648)) (u := 2147483647) hJ14.1 b5 (by decide) (by decide) (fun _ => rfl) rfl rfl rfl (fun v15 b15 e15 => ?_)
        refine ev_istore_n rfl rfl rfl rfl ?_
        dsimp only [List.set]
        refine ev_aload_n rfl rfl rfl ?_
        refine ev_getR (y := 4) rfl rfl fl_X9_22 rfl rfl rfl rfl ?_
        refine ev_getR (y := 9) rfl rfl fl_X9_143 rfl rfl rfl rfl ?_
        refine ev_iload_n rfl rfl rfl ?_
        refine ev_iload_n rfl rfl rfl ?_
        refine ev_iasW (n := 12) (l := (-2147483648)) (u := 2147483647) hJ14 b5 (by decide) (by decide) (fun _ => rfl) b9 (by decide) (by decide) (fun _ => rfl) rfl rfl rfl rfl (fun h16 hJ16 k16 => ?_)
        refine ev_iload_n rfl rfl rfl ?_
        exact ev_iret rfl rfl rfl ⟨⟨_, rfl, (B.any v15)⟩, rfl, hJ16⟩
      · refine ev_sipush (v := (-10002)) rfl rfl (by decide) ?_
        exact ev_iret rfl rfl rfl ⟨⟨_, rfl, ((by decide : B (-10002) (-10002) (-10002)).mono (by decide) (by decide))⟩, rfl, hJ0⟩
    · have b10 : B r6 0 0 := R_eqX b6 (by decide : B 0 0 0) c7
      refine ev_sipush (v := (-10000)) rfl rfl (by decide) ?_
      exact ev_iret rfl rfl rfl ⟨⟨_, rfl, ((by decide : B (-10000) (-10000) (-10000)).mono (by decide) (by decide))⟩, rfl, hJ0⟩

set_option maxRecDepth 100000 in
set_option maxHeartbeats 4000000 in
theorem w_X9_crack_1 (L : Nat) (b : Bool) (h : Hp) (hB : Bx h) (a0 : Int32) (a1 : Int32) : EvJ mi_X9_crack [.ref 1, .int a0, .int a1] (G0 L b) h (fun r : Int32 => B r (-2147483648) 2147483647) [(10, 999), (11, 1), (11, 2), (11, 3), (13, 999), (14, 999), (15, 999), (16, 999), (17, 999), (18, 999), (19, 999), (20, 999), (21, 999), (22, 999)] := by
  refine EvM.of2 (lo := [some (.ref 1), some (.int a0), some (.int a1), none]) pf_X9_crack ok_X9_crack rfl rfl ?_
  have hJ0 : JW [(10, 999), (11, 1), (11, 2), (11, 3), (13, 999), (14, 999), (15, 999), (16, 999), (17, 999), (18, 999), (19, 999), (20, 999), (21, 999), (22, 999)] h h := JW.refl hB
  refine ev_aload_n rfl rfl rfl ?_
  refine ev_getR (y := 4) rfl rfl fl_X9_22 rfl rfl rfl rfl ?_
  refine ev_iload_n rfl rfl rfl ?_
  refine ev_V1P rfl rfl lk_X9_126 vt_X8_has rfl rfl rfl rfl rfl (w_X8_has_4 L b h hJ0.1 a0) (fun r1 q1 => ?_)
  obtain ⟨b1, p1_0⟩ := q1
  refine ev_if_eq rfl rfl (fun c2 => ?_) (fun c2 => ?_)
  · have b3 : B r1 0 0 := R_eqX b1 (by decide : B 0 0 0) c2
    refine ev_sipush (v := (-10000)) rfl rfl (by decide) ?_
    exact ev_iret rfl rfl rfl ⟨⟨_, rfl, ((by decide : B (-10000) (-10000) (-10000)).mono (by decide) (by decide))⟩, rfl, hJ0⟩
  · have b4 : B r1 1 1 := R_neL b1 (by decide : B 0 0 0) c2 (by decide)
    have b5 : B a0 0 11 := p1_0 c2
    refine ev_iload_n rfl rfl rfl ?_
    refine ev_sipush (v := (-200)) rfl rfl (by decide) ?_
    refine ev_sipush (v := 200) rfl rfl (by decide) ?_
    refine ev_S3P rfl rfl lk_X9_75 st_X9_isWithin rfl rfl (w_isWithin (G0 L b) h a1 (-200) 200 (by decide : B (-200) (-200) (-200)) (by decide : B 200 200 200)) (fun r6 q6 => ?_)
    obtain ⟨b6, p6_0⟩ := q6
    refine ev_if_ne rfl rfl (fun c7 => ?_) (fun c7 => ?_)
    · have b8 : B r6 1 1 := R_neL b6 (by decide : B 0 0 0) c7 (by decide)
      have b9 : B a1 (-200) 200 := p6_0 c7
      refine ev_aload_n rfl rfl rfl ?_
      refine ev_getR (y := 11) rfl rfl fl_X9_29 rfl rfl rfl rfl ?_
      refine ev_aload_n rfl rfl rfl ?_
      refine ev_getR (y := 2) rfl rfl fl_X9_10 rfl rfl rfl rfl ?_
      refine ev_aload_n rfl rfl rfl ?_
      refine ev_getR (y := 4) rfl rfl fl_X9_22 rfl rfl rfl rfl ?_
      refine ev_V2N hJ0 rfl rfl rfl lk_X9_79 vt_X0_keep rfl rfl rfl rfl rfl (w_X0_keep_11_2_4 L b h hJ0.1 ) (fun h11 hJ11 k11  => ?_)
      refine ev_aload_n rfl rfl rfl ?_
      refine ev_getR (y := 4) rfl rfl fl_X9_22 rfl rfl rfl rfl ?_
      refine ev_getR (y := 10) rfl rfl fl_X9_146 rfl rfl rfl rfl ?_
      refine ev_iload_n rfl rfl rfl ?_
      refine ev_ialW (n := 12) (l := (-2147483648)) (u := 2147483647) hJ11.1 b5 (by decide) (by decide) (fun _ => rfl) rfl rfl rfl (fun v12 b12 e12 => ?_)
      refine ev_istore_n rfl rfl rfl rfl ?_
      dsimp only [List.set]
      refine ev_aload_n rfl rfl rfl ?_
      refine ev_getR (y := 4) rfl rfl fl_X9_22 rfl rfl rfl rfl ?_
      refine ev_getR (y := 10) rfl rfl fl_X9_146 rfl rfl rfl rfl ?_
      refine ev_iload_n rfl rfl rfl ?_
      refine ev_iload_n rfl rfl rfl ?_
      refine ev_iasW (n := 12) (l := (-2147483648)) (u := 2147483647) hJ11 b5 (by decide) (by decide) (fun _ => rfl) b9 (by decide) (by decide) (fun _ => rfl) rfl rfl rfl rfl (fun h13 hJ13 k13 => ?_)
      refine ev_iload_n rfl rfl rfl ?_
      exact ev_iret rfl rfl rfl ⟨⟨_, rfl, (B.any v12)⟩, rfl, hJ13⟩
    · have b10 : B r6 0 0 := R_eqX b6 (by decide : B 0 0 0) c7
      refine ev_sipush (v := (-10000)) rfl rfl (by decide) ?_
      exact ev_iret rfl rfl rfl ⟨⟨_, rfl, ((by decide : B (-10000) (-10000) (-10000)).mono (by decide) (by decide))⟩, rfl, hJ0⟩

set_option maxRecDepth 100000 in
set_option maxHeartbeats 4000000 in
theorem w_X9_leak_1 (L : Nat) (b : Bool) (h : Hp) (hB : Bx h) (a0 : Int32) (a1 : Int32) (p1 : B a1 0 1) : EvJ mi_X9_leak [.ref 1, .int a0, .int a1] (G0 L b) h (fun r : Int32 => B r (-1) 1) [(4, 6), (11, 1), (11, 2), (11, 3), (13, 999), (14, 999), (15, 999), (16, 999), (17, 999), (18, 999), (19, 999), (20, 999), (21, 999), (22, 999)] := by
  refine EvM.of2 (lo := [some (.ref 1), some (.int a0), some (.int a1), none]) pf_X9_leak ok_X9_leak rfl rfl ?_
  have hJ0 : JW [(4, 6), (11, 1), (11, 2), (11, 3), (13, 999), (14, 999), (15, 999), (16, 999), (17, 999), (18, 999), (19, 999), (20, 999), (21, 999), (22, 999)] h h := JW.refl hB
  refine ev_aload_n rfl rfl rfl ?_
  refine ev_getR (y := 4) rfl rfl fl_X9_22 rfl rfl rfl rfl ?_
  refine ev_iload_n rfl rfl rfl ?_
  refine ev_V1P rfl rfl lk_X9_126 vt_X8_has rfl rfl rfl rfl rfl (w_X8_has_4 L b h hJ0.1 a0) (fun r1 q1 => ?_)
  obtain ⟨b1, p1_0⟩ := q1
  refine ev_if_ne rfl rfl (fun c2 => ?_) (fun c2 => ?_)
  · have b3 : B r1 1 1 := R_neL b1 (by decide : B 0 0 0) c2 (by decide)
    have b4 : B a0 0 11 := p1_0 c2
    refine ev_aload_n rfl rfl rfl ?_
    refine ev_getR (y := 11) rfl rfl fl_X9_29 rfl rfl rfl rfl ?_
    refine ev_aload_n rfl rfl rfl ?_
    refine ev_getR (y := 2) rfl rfl fl_X9_10 rfl rfl rfl rfl ?_
    refine ev_aload_n rfl rfl rfl ?_
    refine ev_getR (y := 4) rfl rfl fl_X9_22 rfl rfl rfl rfl ?_
    refine ev_V2N hJ0 rfl rfl rfl lk_X9_79 vt_X0_keep rfl rfl rfl rfl rfl (w_X0_keep_11_2_4 L b h hJ0.1 ) (fun h6 hJ6 k6  => ?_)
    refine ev_aload_n rfl rfl rfl ?_
    refine ev_getR (y := 4) rfl rfl fl_X9_22 rfl rfl rfl rfl ?_
    refine ev_getW (l := (-2147483648)) (u := 2147483647) hJ6.1 rfl rfl rfl fl_X9_105 rfl rfl rfl (fun v7 b7 e7 => ?_)
    refine ev_iload_n rfl rfl rfl ?_
    refine ev_ishrA rfl rfl (fun v8 => ?_)
    refine ev_iconst (v := 1) rfl rfl (by decide) ?_
    refine ev_iandB rfl rfl (by decide : B 1 1 1) (by decide) (fun v9 b9 e9 => ?_)
    refine ev_istore_n rfl rfl rfl rfl ?_
    dsimp only [List.set]
    refine ev_aload_n rfl rfl rfl ?_
    refine ev_getR (y := 4) rfl rfl fl_X9_22 rfl rfl rfl rfl ?_
    refine ev_iload_n rfl rfl rfl ?_
    refine ev_if_eq rfl rfl (fun c10 => ?_) (fun c10 => ?_)
    · have b11 : B a1 0 0 := R_eqX p1 (by decide : B 0 0 0) c10
      refine ev_aload_n rfl rfl rfl ?_
      refine ev_getR (y := 4) rfl rfl fl_X9_22 rfl rfl rfl rfl ?_
      refine ev_getV (v := v7) rfl rfl fl_X9_105 rfl rfl rfl e7 ?_
      refine ev_iconst (v := 1) rfl rfl (by decide) ?_
      refine ev_iload_n rfl rfl rfl ?_
      refine ev_ishlB rfl rfl b4 (by decide) (by decide) (fun v13 b13 => ?_)
      refine ev_iconst (v := (-1)) rfl rfl (by decide) ?_
      refine ev_ixorA rfl rfl (fun v14 => ?_)
      refine ev_iandA rfl rfl (fun v15 => ?_)
      refine ev_putW (l := (-2147483648)) (u := 2147483647) hJ6 rfl (B.any v15) (by decide) (by decide) rfl rfl rfl fl_X9_105 rfl rfl rfl rfl rfl (fun h16 hJ16 k16 => ?_)
      refine ev_iload_n rfl rfl rfl ?_
      exact ev_iret rfl rfl rfl ⟨⟨_, rfl, (b9.mono (by decide) (by decide))⟩, rfl, hJ16⟩
    · have b12 : B a1 1 1 := R_neL p1 (by decide : B 0 0 0) c10 (by decide)
      refine ev_aload_n rfl rfl rfl ?_
      refine ev_getR (y := 4) rfl rfl fl_X9_22 rfl rfl rfl rfl ?_
      refine ev_getV (v := v7) rfl rfl fl_X9_105 rfl rfl rfl e7 ?_
      refine ev_iconst (v := 1) rfl rfl (by decide) ?_
      refine ev_iload_n rfl rfl rfl ?_
      refine ev_ishlB rfl rfl b4 (by decide) (by decide) (fun v17 b17 => ?_)
      refine ev_iorA rfl rfl (fun v18 => ?_)
      refine ev_goto rfl rfl ?_
      refine ev_putW (l := (-2147483648)) (u := 2147483647) hJ6 rfl (B.any v18) (by decide) (by decide) rfl rfl rfl fl_X9_105 rfl rfl rfl rfl rfl (fun h19 hJ19 k19 => ?_)
      refine ev_iload_n rfl rfl rfl ?_
      exact ev_iret rfl rfl rfl ⟨⟨_, rfl, (b9.mono (by decide) (by decide))⟩, rfl, hJ19⟩
  · have b5 : B r1 0 0 := R_eqX b1 (by decide : B 0 0 0) c2
    refine ev_iconst (v := (-1)) rfl rfl (by decide) ?_
    exact ev_iret rfl rfl rfl ⟨⟨_, rfl, ((by decide : B (-1) (-1) (-1)).mono (by decide) (by decide))⟩, rfl, hJ0⟩

set_option maxRecDepth 100000 in
set_option maxHeartbeats 4000000 in
theorem w_X9_tuneAll_1 (L : Nat) (b : Bool) (h : Hp) (hB : Bx h) (a0 : Int32) : EvJ mi_X9_tuneAll [.ref 1, .int a0] (G0 L b) h (fun r : Int32 => B r (-2147483648) 2147483647) [(9, 999), (11, 1), (11, 2), (11, 3), (13, 999), (14, 999), (15, 999), (16, 999), (17, 999), (18, 999), (19, 999), (20, 999), (21, 999), (22, 999)] := by
  refine EvM.of2 (lo := [some (.ref 1), some (.int a0)]) pf_X9_tuneAll ok_X9_tuneAll rfl rfl ?_
  have hJ0 : JW [(9, 999), (11, 1), (11, 2), (11, 3), (13, 999), (14, 999), (15, 999), (16, 999), (17, 999), (18, 999), (19, 999), (20, 999), (21, 999), (22, 999)] h h := JW.refl hB
  refine ev_iload_n rfl rfl rfl ?_
  refine ev_iconst (v := 0) rfl rfl (by decide) ?_
  refine ev_sipush (v := 200) rfl rfl (by decide) ?_
  refine ev_S3P rfl rfl lk_X9_75 st_X9_isWithin rfl rfl (w_isWithin (G0 L b) h a0 0 200 (by decide : B 0 0 0) (by decide : B 200 200 200)) (fun r1 q1 => ?_)
  obtain ⟨b1, p1_0⟩ := q1
  refine ev_if_ne rfl rfl (fun c2 => ?_) (fun c2 => ?_)
  · have b3 : B r1 1 1 := R_neL b1 (by decide : B 0 0 0) c2 (by decide)
    have b4 : B a0 0 200 := p1_0 c2
    refine ev_aload_n rfl rfl rfl ?_
    refine ev_getR (y := 11) rfl rfl fl_X9_29 rfl rfl rfl rfl ?_
    refine ev_aload_n rfl rfl rfl ?_
    refine ev_getR (y := 2) rfl rfl fl_X9_10 rfl rfl rfl rfl ?_
    refine ev_aload_n rfl rfl rfl ?_
    refine ev_getR (y := 4) rfl rfl fl_X9_22 rfl rfl rfl rfl ?_
    refine ev_V2N hJ0 rfl rfl rfl lk_X9_79 vt_X0_keep rfl rfl rfl rfl rfl (w_X0_keep_11_2_4 L b h hJ0.1 ) (fun h6 hJ6 k6  => ?_)
    refine ev_aload_n rfl rfl rfl ?_
    refine ev_getR (y := 4) rfl rfl fl_X9_22 rfl rfl rfl rfl ?_
    refine ev_iload_n rfl rfl rfl ?_
    refine ev_V1N hJ6 rfl rfl rfl lk_X9_155 vt_X8_bringNear rfl rfl rfl rfl rfl (w_X8_bringNear_4 L b h6 hJ6.1 a0) (fun h7 hJ7 k7  => ?_)
    refine ev_aload_n rfl rfl rfl ?_
    refine ev_getR (y := 4) rfl rfl fl_X9_22 rfl rfl rfl rfl ?_
    refine ev_getW (l := 0) (u := 12) hJ7.1 rfl rfl rfl fl_X9_158 rfl rfl rfl (fun v8 b8 e8 => ?_)
    refine ev_aload_n rfl rfl rfl ?_
    refine ev_getR (y := 4) rfl rfl fl_X9_22 rfl rfl rfl rfl ?_
    refine ev_iload_n rfl rfl rfl ?_
    refine ev_V1P rfl rfl lk_X9_161 vt_X8_exactAt rfl rfl rfl rfl rfl (w_X8_exactAt_4 L b h7 hJ7.1 a0) (fun r9 q9 => ?_)
    refine ev_isubA rfl rfl (fun v10 g10 => ?_)
    exact ev_iret rfl rfl rfl ⟨⟨_, rfl, (B.any v10)⟩, rfl, hJ7⟩
  · have b5 : B r1 0 0 := R_eqX b1 (by decide : B 0 0 0) c2
    refine ev_iconst (v := (-1)) rfl rfl (by decide) ?_
    exact ev_iret rfl rfl rfl ⟨⟨_, rfl, ((by decide : B (-1) (-1) (-1)).mono (by decide) (by decide))⟩, rfl, hJ0⟩

set_option maxRecDepth 100000 in
set_option maxHeartbeats 4000000 in
theorem w_X9_undo_1 (L : Nat) (b : Bool) (h : Hp) (hB : Bx h)  : EvJ mi_X9_undo [.ref 1] (G0 L b) h (fun r : Int32 => B r (-2147483648) 2147483647) [(2, 0), (2, 1), (2, 2), (2, 3), (2, 4), (4, 6), (9, 999), (10, 999), (11, 1), (11, 2), (11, 3)] := by
  refine EvM.of2 (lo := [some (.ref 1)]) pf_X9_undo ok_X9_undo rfl rfl ?_
  have hJ0 : JW [(2, 0), (2, 1), (2, 2), (2, 3), (2, 4), (4, 6), (9, 999), (10, 999), (11, 1), (11, 2), (11, 3)] h h := JW.refl hB
  refine ev_aload_n rfl rfl rfl ?_
  refine ev_getR (y := 11) rfl rfl fl_X9_29 rfl rfl rfl rfl ?_
  refine ev_aload_n rfl rfl rfl ?_
  refine ev_getR (y := 2) rfl rfl fl_X9_10 rfl rfl rfl rfl ?_
  refine ev_aload_n rfl rfl rfl ?_
  refine ev_getR (y := 4) rfl rfl fl_X9_22 rfl rfl rfl rfl ?_
  refine ev_V2J hJ0 rfl rfl rfl lk_X9_311 vt_X0_restore rfl rfl rfl rfl rfl (w_X0_restore_11_2_4 L b h hJ0.1 ) (fun r1 h1 q1 hJ1 k1 => ?_)
  refine ev_if_eq rfl rfl (fun c2 => ?_) (fun c2 => ?_)
  · have b3 : B r1 0 0 := R_eqX q1 (by decide : B 0 0 0) c2
    refine ev_bipush (v := (-4)) rfl rfl (by decide) ?_
    exact ev_iret rfl rfl rfl ⟨⟨_, rfl, ((by decide : B (-4) (-4) (-4)).mono (by decide) (by decide))⟩, rfl, hJ1⟩
  · have b4 : B r1 1 1 := R_neL q1 (by decide : B 0 0 0) c2 (by decide)
    refine ev_aload_n rfl rfl rfl ?_
    refine ev_getR (y := 11) rfl rfl fl_X9_29 rfl rfl rfl rfl ?_
    refine ev_getW (l := (-2147483648)) (u := 2147483647) hJ1.1 rfl rfl rfl fl_X9_315 rfl rfl rfl (fun v5 b5 e5 => ?_)
    refine ev_goto rfl rfl ?_
    exact ev_iret rfl rfl rfl ⟨⟨_, rfl, (B.any v5)⟩, rfl, hJ1⟩

set_option maxRecDepth 100000 in
set_option maxHeartbeats 4000000 in
theorem w_X9_boiler_1 (L : Nat) (b : Bool) (h : Hp) (hB : Bx h) (a0 : Int32) : EvP mi_X9_boiler [.ref 1, .int a0] (G0 L b) h (fun r : Int32 => B r (-2147483648) 2147483647) := by
  refine EvM.of2 (lo := [some (.ref 1), some (.int a0)]) pf_X9_boiler ok_X9_boiler rfl rfl ?_
  refine ev_iload_n rfl rfl rfl ?_
  rcases ev_sw a0 0 5 with w1 | w1
  · refine ev_tabOut 96 rfl w1 (by decide) ?_
    refine ev_iconst (v := (-1)) rfl rfl (by decide) ?_
    exact ev_iret rfl rfl rfl ⟨⟨_, rfl, ((by decide : B (-1) (-1) (-1)).mono (by decide) (by decide))⟩, rfl, rfl⟩
  · have w1b : a0 = 0 ∨ a0 = 1 ∨ a0 = 2 ∨ a0 = 3 ∨ a0 = 4 ∨ a0 = 5 := sw_or6_0 w1
    rcases w1b with rfl | rfl | rfl | rfl | rfl | rfl
    · refine ev_tabIn 40 rfl (by decide) (by decide) rfl (by decide) ?_
      refine ev_aload_n rfl rfl rfl ?_
      refine ev_getR (y := 2) rfl rfl fl_X9_10 rfl rfl rfl rfl ?_
      refine ev_getW (l := 0) (u := 200) hB rfl rfl rfl fl_X9_99 rfl rfl rfl (fun v2 b2 e2 => ?_)
      exact ev_iret rfl rfl rfl ⟨⟨_, rfl, (b2.mono (by decide) (by decide))⟩, rfl, rfl⟩
    · refine ev_tabIn 48 rfl (by decide) (by decide) rfl (by decide) ?_
      refine ev_aload_n rfl rfl rfl ?_
      refine ev_getR (y := 2) rfl rfl fl_X9_10 rfl rfl rfl rfl ?_
      refine ev_getW (l := (-2147483648)) (u := 2147483647) hB rfl rfl rfl fl_X9_87 rfl rfl rfl (fun v3 b3 e3 => ?_)
      exact ev_iret rfl rfl rfl ⟨⟨_, rfl, (B.any v3)⟩, rfl, rfl⟩
    · refine ev_tabIn 56 rfl (by decide) (by decide) rfl (by decide) ?_
      refine ev_aload_n rfl rfl rfl ?_
      refine ev_getR (y := 2) rfl rfl fl_X9_10 rfl rfl rfl rfl ?_
      refine ev_getW (l := (-2147483648)) (u := 2147483647) hB rfl rfl rfl fl_X9_83 rfl rfl rfl (fun v4 b4 e4 => ?_)
      exact ev_iret rfl rfl rfl ⟨⟨_, rfl, (B.any v4)⟩, rfl, rfl⟩
    · refine ev_tabIn 64 rfl (by decide) (by decide) rfl (by decide) ?_
      refine ev_aload_n rfl rfl rfl ?_
      refine ev_getR (y := 2) rfl rfl fl_X9_10 rfl rfl rfl rfl ?_
      refine ev_getW (l := 0) (u := 200) hB rfl rfl rfl fl_X9_96 rfl rfl rfl (fun v5 b5 e5 => ?_)
      exact ev_iret rfl rfl rfl ⟨⟨_, rfl, (b5.mono (by decide) (by decide))⟩, rfl, rfl⟩
    · refine ev_tabIn 72 rfl (by decide) (by decide) rfl (by decide) ?_
      refine ev_aload_n rfl rfl rfl ?_
      refine ev_getR (y := 2) rfl rfl fl_X9_10 rfl rfl rfl rfl ?_
      refine ev_getW (l := (-2147483648)) (u := 2147483647) hB rfl rfl rfl fl_X9_102 rfl rfl rfl (fun v6 b6 e6 => ?_)
      exact ev_iret rfl rfl rfl ⟨⟨_, rfl, (B.any v6)⟩, rfl, rfl⟩
    · refine ev_tabIn 80 rfl (by decide) (by decide) rfl (by decide) ?_
      refine ev_aload_n rfl rfl rfl ?_
      refine ev_getR (y := 4) rfl rfl fl_X9_22 rfl rfl rfl rfl ?_
      refine ev_iconst (v := 0) rfl rfl (by decide) ?_
      refine ev_aload_n rfl rfl rfl ?_
      refine ev_getR (y := 4) rfl rfl fl_X9_22 rfl rfl rfl rfl ?_
      refine ev_getW (l := (-2147483648)) (u := 2147483647) hB rfl rfl rfl fl_X9_105 rfl rfl rfl (fun v7 b7 e7 => ?_)
      refine ev_V2P rfl rfl lk_X9_108 vt_X8_drawnBy rfl rfl rfl rfl rfl (w_X8_drawnBy_4 L b h hB 0 v7) (fun r8 q8 => ?_)
      exact ev_iret rfl rfl rfl ⟨⟨_, rfl, (B.any r8)⟩, rfl, rfl⟩

set_option maxRecDepth 100000 in
set_option maxHeartbeats 4000000 in
theorem w_X5_isNothing_55 (L : Nat) (b : Bool) (h : Hp) (hB : Bx h) (a0 : Int32) (p0 : B a0 0 3) : EvP mi_X5_isNothing [.ref 55, .int a0] (G0 L b) h (fun r : Int32 => B r 0 1) := by
  refine EvM.of2 (lo := [some (.ref 55), some (.int a0)]) pf_X5_isNothing ok_X5_isNothing rfl rfl ?_
  refine ev_aload_n rfl rfl rfl ?_
  refine ev_getR (y := 62) rfl rfl fl_X5_18 rfl rfl rfl rfl ?_
  refine ev_iload_n rfl rfl rfl ?_
  refine ev_ialW (n := 4) (l := (-1)) (u := 60) hB p0 (by decide) (by decide) (fun _ => rfl) rfl rfl rfl (fun v1 b1 e1 => ?_)
  refine ev_iconst (v := (-1)) rfl rfl (by decide) ?_
  refine ev_icmp_ne rfl rfl (fun c2 => ?_) (fun c2 => ?_)
  · have b3 : B v1 0 60 := R_neL b1 (by decide : B (-1) (-1) (-1)) c2 (by decide)
    refine ev_iconst (v := 0) rfl rfl (by decide) ?_
    exact ev_iret rfl rfl rfl ⟨⟨_, rfl, ((by decide : B 0 0 0).mono (by decide) (by decide))⟩, rfl, rfl⟩
  · have b4 : B v1 (-1) (-1) := R_eqX b1 (by decide : B (-1) (-1) (-1)) c2
    refine ev_iconst (v := 1) rfl rfl (by decide) ?_
    refine ev_goto rfl rfl ?_
    exact ev_iret rfl rfl rfl ⟨⟨_, rfl, ((by decide : B 1 1 1).mono (by decide) (by decide))⟩, rfl, rfl⟩

set_option maxRecDepth 100000 in
set_option maxHeartbeats 4000000 in
theorem w_X9_count_1 (L : Nat) (b : Bool) (h : Hp) (hB : Bx h) (a0 : Int32) : EvP mi_X9_count [.ref 1, .int a0] (G0 L b) h (fun r : Int32 => B r (-2147483648) 2147483647) := by
  refine EvM.of2 (lo := [some (.ref 1), some (.int a0)]) pf_X9_count ok_X9_count rfl rfl ?_
  refine ev_iload_n rfl rfl rfl ?_
  rcases ev_sw a0 0 8 with w1 | w1
  · refine ev_tabOut 145 rfl w1 (by decide) ?_
    refine ev_iconst (v := (-1)) rfl rfl (by decide) ?_
    exact ev_iret rfl rfl rfl ⟨⟨_, rfl, ((by decide : B (-1) (-1) (-1)).mono (by decide) (by decide))⟩, rfl, rfl⟩
  · have w1b : a0 = 0 ∨ a0 = 1 ∨ a0 = 2 ∨ a0 = 3 ∨ a0 = 4 ∨ a0 = 5 ∨ a0 = 6 ∨ a0 = 7 ∨ a0 = 8 := sw_or9_0 w1
    rcases w1b with rfl | rfl | rfl | rfl | rfl | rfl | rfl | rfl | rfl
    · refine ev_tabIn 52 rfl (by decide) (by decide) rfl (by decide) ?_
      refine ev_aload_n rfl rfl rfl ?_
      refine ev_getR (y := 4) rfl rfl fl_X9_22 rfl rfl rfl rfl ?_
      refine ev_getW (l := 0) (u := 12) hB rfl rfl rfl fl_X9_158 rfl rfl rfl (fun v2 b2 e2 => ?_)
      exact ev_iret rfl rfl rfl ⟨⟨_, rfl, (b2.mono (by decide) (by decide))⟩, rfl, rfl⟩
    · refine ev_tabIn 60 rfl (by decide) (by decide) rfl (by decide) ?_
      refine ev_aload_n rfl rfl rfl ?_
      refine ev_getR (y := 28) rfl rfl fl_X9_43 rfl rfl rfl rfl ?_
      refine ev_getW (l := 0) (u := 6) hB rfl rfl rfl fl_X9_176 rfl rfl rfl (fun v3 b3 e3 => ?_)
      exact ev_iret rfl rfl rfl ⟨⟨_, rfl, (b3.mono (by decide) (by decide))⟩, rfl, rfl⟩
    · refine ev_tabIn 68 rfl (by decide) (by decide) rfl (by decide) ?_
      refine ev_aload_n rfl rfl rfl ?_
      refine ev_getR (y := 50) rfl rfl fl_X9_64 rfl rfl rfl rfl ?_
      refine ev_getW (l := 0) (u := 4) hB rfl rfl rfl fl_X9_335 rfl rfl rfl (fun v4 b4 e4 => ?_)
      exact ev_iret rfl rfl rfl ⟨⟨_, rfl, (b4.mono (by decide) (by decide))⟩, rfl, rfl⟩
    · refine ev_tabIn 76 rfl (by decide) (by decide) rfl (by decide) ?_
      refine ev_aload_n rfl rfl rfl ?_
      refine ev_getR (y := 50) rfl rfl fl_X9_64 rfl rfl rfl rfl ?_
      refine ev_getW (l := 0) (u := 6) hB rfl rfl rfl fl_X9_338 rfl rfl rfl (fun v5 b5 e5 => ?_)
      exact ev_iret rfl rfl rfl ⟨⟨_, rfl, (b5.mono (by decide) (by decide))⟩, rfl, rfl⟩
    · refine ev_tabIn 84 rfl (by decide) (by decide) rfl (by decide) ?_
      refine ev_aload_n rfl rfl rfl ?_
      refine ev_getR (y := 4) rfl rfl fl_X9_22 rfl rfl rfl rfl ?_
      refine ev_getW (l := (-2147483648)) (u := 2147483647) hB rfl rfl rfl fl_X9_105 rfl rfl rfl (fun v6 b6 e6 => ?_)
      refine ev_S1P rfl rfl lk_X9_341 st_J6_bitCount_0f7a4 rfl rfl (w_any (c_bitCount (G0 L b) h v6)) (fun r7 q7 => ?_)
      exact ev_iret rfl rfl rfl ⟨⟨_, rfl, (B.any r7)⟩, rfl, rfl⟩
    · refine ev_tabIn 95 rfl (by decide) (by decide) rfl (by decide) ?_
      refine ev_aload_n rfl rfl rfl ?_
      refine ev_getR (y := 4) rfl rfl fl_X9_22 rfl rfl rfl rfl ?_
      refine ev_V0P rfl rfl lk_X9_346 vt_X8_cracked rfl rfl rfl rfl rfl (w_X8_cracked_4 L b h hB ) (fun r8 q8 => ?_)
      exact ev_iret rfl rfl rfl ⟨⟨_, rfl, (B.any r8)⟩, rfl, rfl⟩
    · refine ev_tabIn 103 rfl (by decide) (by decide) rfl (by decide) ?_
      refine ev_aload_n rfl rfl rfl ?_
      refine ev_getR (y := 11) rfl rfl fl_X9_29 rfl rfl rfl rfl ?_
      refine ev_getW (l := (-2147483648)) (u := 2147483647) hB rfl rfl rfl fl_X9_315 rfl rfl rfl (fun v9 b9 e9 => ?_)
      exact ev_iret rfl rfl rfl ⟨⟨_, rfl, (B.any v9)⟩, rfl, rfl⟩
    · refine ev_tabIn 111 rfl (by decide) (by decide) rfl (by decide) ?_
      refine ev_aload_n rfl rfl rfl ?_
      refine ev_getR (y := 23) rfl rfl fl_X9_36 rfl rfl rfl rfl ?_
      refine ev_getW (l := 0) (u := 160) hB rfl rfl rfl fl_X9_173 rfl rfl rfl (fun v10 b10 e10 => ?_)
      exact ev_iret rfl rfl rfl ⟨⟨_, rfl, (b10.mono (by decide) (by decide))⟩, rfl, rfl⟩
    · refine ev_tabIn 119 rfl (by decide) (by decide) rfl (by decide) ?_
      refine ev_aload_n rfl rfl rfl ?_
      refine ev_getR (y := 55) rfl rfl fl_X9_71 rfl rfl rfl rfl ?_
      refine ev_iconst (v := 0) rfl rfl (by decide) ?_
      refine ev_V1P rfl rfl lk_X9_322 vt_X5_isNothing rfl rfl rfl rfl rfl (w_X5_isNothing_55 L b h hB 0 ((by decide : B 0 0 0).mono (by decide) (by decide))) (fun r11 q11 => ?_)
      refine ev_if_eq rfl rfl (fun c12 => ?_) (fun c12 => ?_)
      · have b13 : B r11 0 0 := R_eqX q11 (by decide : B 0 0 0) c12
        refine ev_aload_n rfl rfl rfl ?_
        refine ev_getR (y := 55) rfl rfl fl_X9_71 rfl rfl rfl rfl ?_
        refine ev_getR (y := 62) rfl rfl fl_X9_349 rfl rfl rfl rfl ?_
        refine ev_iconst (v := 0) rfl rfl (by decide) ?_
        refine ev_ialK (j := 0) (n := 4) (l := (-1)) (u := 60) hB (by decide : B 0 0 0) (by decide) (by decide) (by decide) rfl rfl rfl rfl (fun v15 b15 e15 => ?_)
        exact ev_iret rfl rfl rfl ⟨⟨_, rfl, (b15.mono (by decide) (by decide))⟩, rfl, rfl⟩
      · have b14 : B r11 1 1 := R_neL q11 (by decide : B 0 0 0) c12 (by decide)
        refine ev_bipush (v := (-4)) rfl rfl (by decide) ?_
        refine ev_goto rfl rfl ?_
        exact ev_iret rfl rfl rfl ⟨⟨_, rfl, ((by decide : B (-4) (-4) (-4)).mono (by decide) (by decide))⟩, rfl, rfl⟩

set_option maxRecDepth 100000 in
set_option maxHeartbeats 4000000 in
theorem w_X9_isPlace (L : Nat) (b : Bool) (h : Hp) (hB : Bx h) (a0 : Int32) : EvP mi_X9_isPlace [.int a0] (G0 L b) h (fun r : Int32 => B r 0 1 ∧ (¬ r = 0 → B a0 0 999)) := by
  refine EvM.of2 (lo := [some (.int a0)]) pf_X9_isPlace ok_X9_isPlace rfl rfl ?_
  refine ev_iload_n rfl rfl rfl ?_
  refine ev_iconst (v := 0) rfl rfl (by decide) ?_
  refine ev_sipush (v := 999) rfl rfl (by decide) ?_
  refine ev_S3P rfl rfl lk_X9_75 st_X9_isWithin rfl rfl (w_isWithin (G0 L b) h a0 0 999 (by decide : B 0 0 0) (by decide : B 999 999 999)) (fun r1 q1 => ?_)
  obtain ⟨b1, p1_0⟩ := q1
  exact ev_iret rfl rfl (ev_rtB b1) ⟨⟨_, rfl, ⟨b1, (fun e_ => (p1_0 e_).mono (by decide) (by decide))⟩⟩, rfl, rfl⟩

set_option maxRecDepth 100000 in
set_option maxHeartbeats 4000000 in
theorem w_X9_far_1 (L : Nat) (b : Bool) (h : Hp) (hB : Bx h) (a0 : Int32) (a1 : Int32) : EvP mi_X9_far [.ref 1, .int a0, .int a1] (G0 L b) h (fun r : Int32 => B r (-2147483648) 2147483647) := by
  refine EvM.of2 (lo := [some (.ref 1), some (.int a0), some (.int a1)]) pf_X9_far ok_X9_far rfl rfl ?_
  refine ev_iload_n rfl rfl rfl ?_
  refine ev_S1P rfl rfl lk_X9_271 st_X9_isPlace rfl rfl (w_X9_isPlace L b h hB a0) (fun r1 q1 => ?_)
  obtain ⟨b1, p1_0⟩ := q1
  refine ev_if_eq rfl rfl (fun c2 => ?_) (fun c2 => ?_)
  · have b3 : B r1 0 0 := R_eqX b1 (by decide : B 0 0 0) c2
    refine ev_iconst (v := (-1)) rfl rfl (by decide) ?_
    exact ev_iret rfl rfl rfl ⟨⟨_, rfl, ((by decide : B (-1) (-1) (-1)).mono (by decide) (by decide))⟩, rfl, rfl⟩
  · have b4 : B r1 1 1 := R_neL b1 (by decide : B 0 0 0) c2 (by decide)
    have b5 : B a0 0 999 := p1_0 c2
    refine ev_iload_n rfl rfl rfl ?_
    refine ev_S1P rfl rfl lk_X9_271 st_X9_isPlace rfl rfl (w_X9_isPlace L b h hB a1) (fun r6 q6 => ?_)
    obtain ⟨b6, p6_0⟩ := q6
    refine ev_if_eq rfl rfl (fun c7 => ?_) (fun c7 => ?_)
    · have b8 : B r6 0 0 := R_eqX b6 (by decide : B 0 0 0) c7
      refine ev_iconst (v := (-1)) rfl rfl (by decide) ?_
      exact ev_iret rfl rfl rfl ⟨⟨_, rfl, ((by decide : B (-1) (-1) (-1)).mono (by decide) (by decide))⟩, rfl, rfl⟩
    · have b9 : B r6 1 1 := R_neL b6 (by decide : B 0 0 0) c7 (by decide)
      have b10 : B a1 0 999 := p6_0 c7
      refine ev_aload_n rfl rfl rfl ?_
      refine ev_getR (y := 50) rfl rfl fl_X9_64 rfl rfl rfl rfl ?_
      refine ev_iload_n rfl rfl rfl ?_
      refine ev_iload_n rfl rfl rfl ?_
      refine ev_V2P rfl rfl lk_X9_286 vt_X3_way rfl rfl rfl rfl rfl (w_X3_way_50 L b h hB a0 a1) (fun r11 q11 => ?_)
      refine ev_goto rfl rfl ?_
      exact ev_iret rfl rfl rfl ⟨⟨_, rfl, (B.any r11)⟩, rfl, rfl⟩

set_option maxRecDepth 100000 in
set_option maxHeartbeats 4000000 in
theorem w_X3_hasBoat_50 (L : Nat) (b : Bool) (h : Hp) (hB : Bx h) (a0 : Int32) : EvP mi_X3_hasBoat [.ref 50, .int a0] (G0 L b) h (fun r : Int32 => B r 0 1 ∧ (¬ r = 0 → B a0 0 3)) := by
  refine EvM.of2 (lo := [some (.ref 50), some (.int a0)]) pf_X3_hasBoat ok_X3_hasBoat rfl rfl ?_
  refine ev_iconst (v := 0) rfl rfl (by decide) ?_
  refine ev_iload_n rfl rfl rfl ?_
  refine ev_icmp_gt rfl rfl (fun c1 => ?_) (fun c1 => ?_)
  · have b2 : B a0 (-2147483648) (-1) := R_ltX (B.any a0) (by decide : B 0 0 0) c1 (by decide)
    refine ev_iconst (v := 0) rfl rfl (by decide) ?_
    exact ev_iret rfl rfl rfl ⟨⟨_, rfl, ⟨((by decide : B 0 0 0).mono (by decide) (by decide)), (fun e_ => absurd rfl e_)⟩⟩, rfl, rfl⟩
  · have b3 : B a0 0 2147483647 := R_leY (by decide : B 0 0 0) (B.any a0) (Int32.not_lt.mp c1) (by decide)
    refine ev_iload_n rfl rfl rfl ?_
    refine ev_aload_n rfl rfl rfl ?_
    refine ev_getW (l := 0) (u := 4) hB rfl rfl rfl fl_X3_18 rfl rfl rfl (fun v4 b4 e4 => ?_)
    refine ev_icmp_ge rfl rfl (fun c5 => ?_) (fun c5 => ?_)
    · refine ev_iconst (v := 0) rfl rfl (by decide) ?_
      exact ev_iret rfl rfl rfl ⟨⟨_, rfl, ⟨((by decide : B 0 0 0).mono (by decide) (by decide)), (fun e_ => absurd rfl e_)⟩⟩, rfl, rfl⟩
    · have b6 : B a0 0 3 := R_ltX b3 b4 (Int32.not_le.mp c5) (by decide)
      have b7 : B v4 1 4 := R_ltY b3 b4 (Int32.not_le.mp c5) (by decide)
      refine ev_iconst (v := 1) rfl rfl (by decide) ?_
      refine ev_goto rfl rfl ?_
      exact ev_iret rfl rfl rfl ⟨⟨_, rfl, ⟨((by decide : B 1 1 1).mono (by decide) (by decide)), (fun _ => b6)⟩⟩, rfl, rfl⟩

set_option maxRecDepth 100000 in
set_option maxHeartbeats 4000000 in
theorem w_X9_heard_1 (L : Nat) (b : Bool) (h : Hp) (hB : Bx h) (a0 : Int32) (a1 : Int32) (a2 : Int32) : EvP mi_X9_heard [.ref 1, .int a0, .int a1, .int a2] (G0 L b) h (fun r : Int32 => B r (-2147483648) 2147483647) := by
  refine EvM.of2 (lo := [some (.ref 1), some (.int a0), some (.int a1), some (.int a2)]) pf_X9_heard ok_X9_heard rfl rfl ?_
  refine ev_aload_n rfl rfl rfl ?_
  refine ev_getR (y := 50) rfl rfl fl_X9_64 rfl rfl rfl rfl ?_
  refine ev_iload_n rfl rfl rfl ?_
  refine ev_V1P rfl rfl lk_X9_289 vt_X3_hasBoat rfl rfl rfl rfl rfl (w_X3_hasBoat_50 L b h hB a0) (fun r1 q1 => ?_)
  obtain ⟨b1, p1_0⟩ := q1
  refine ev_if_eq rfl rfl (fun c2 => ?_) (fun c2 => ?_)
  · have b3 : B r1 0 0 := R_eqX b1 (by decide : B 0 0 0) c2
    refine ev_iconst (v := (-1)) rfl rfl (by decide) ?_
    exact ev_iret rfl rfl rfl ⟨⟨_, rfl, ((by decide : B (-1) (-1) (-1)).mono (by decide) (by decide))⟩, rfl, rfl⟩
  · have b4 : B r1 1 1 := R_neL b1 (by decide : B 0 0 0) c2 (by decide)
    have b5 : B a0 0 3 := p1_0 c2
    refine ev_iload_n rfl rfl rfl ?_
    refine ev_iconst (v := 0) rfl rfl (by decide) ?_
    refine ev_bipush (v := 99) rfl rfl (by decide) ?_
    refine ev_S3P rfl rfl lk_X9_75 st_X9_isWithin rfl rfl (w_isWithin (G0 L b) h a1 0 99 (by decide : B 0 0 0) (by decide : B 99 99 99)) (fun r6 q6 => ?_)
    obtain ⟨b6, p6_0⟩ := q6
    refine ev_if_eq rfl rfl (fun c7 => ?_) (fun c7 => ?_)
    · have b8 : B r6 0 0 := R_eqX b6 (by decide : B 0 0 0) c7
      refine ev_iconst (v := (-1)) rfl rfl (by decide) ?_
      exact ev_iret rfl rfl rfl ⟨⟨_, rfl, ((by decide : B (-1) (-1) (-1)).mono (by decide) (by decide))⟩, rfl, rfl⟩
    · have b9 : B r6 1 1 := R_neL b6 (by decide : B 0 0 0) c7 (by decide)
      have b10 : B a1 0 99 := p6_0 c7
      refine ev_iload_n rfl rfl rfl ?_
      refine ev_S1P rfl rfl lk_X9_271 st_X9_isPlace rfl rfl (w_X9_isPlace L b h hB a2) (fun r11 q11 => ?_)
      obtain ⟨b11, p11_0⟩ := q11
      refine ev_if_ne rfl rfl (fun c12 => ?_) (fun c12 => ?_)
      · have b13 : B r11 1 1 := R_neL b11 (by decide : B 0 0 0) c12 (by decide)
        have b14 : B a2 0 999 := p11_0 c12
        refine ev_iload_n rfl rfl rfl ?_
        refine ev_aload_n rfl rfl rfl ?_
        refine ev_getR (y := 50) rfl rfl fl_X9_64 rfl rfl rfl rfl ?_
        refine ev_iload_n rfl rfl rfl ?_
        refine ev_iload_n rfl rfl rfl ?_
        refine ev_V2P rfl rfl lk_X9_292 vt_X3_firstHeard rfl rfl rfl rfl rfl (w_X3_firstHeard_50 L b h hB a0 b5 a2) (fun r16 q16 => ?_)
        refine ev_iaddA rfl rfl (fun v17 g17 => ?_)
        exact ev_iret rfl rfl rfl ⟨⟨_, rfl, (B.any v17)⟩, rfl, rfl⟩
      · have b15 : B r11 0 0 := R_eqX b11 (by decide : B 0 0 0) c12
        refine ev_iconst (v := (-1)) rfl rfl (by decide) ?_
        exact ev_iret rfl rfl rfl ⟨⟨_, rfl, ((by decide : B (-1) (-1) (-1)).mono (by decide) (by decide))⟩, rfl, rfl⟩

set_option maxRecDepth 100000 in
set_option maxHeartbeats 4000000 in
theorem w_X9_step_1 (L : Nat) (b : Bool) (h : Hp) (hB : Bx h) (a0 : Int32) (a1 : Int32) (a2 : Int32) : EvJ mi_X9_step [.ref 1, .int a0, .int a1, .int a2] (G0 L b) h (fun r : Int32 => B r (-2147483648) 2147483647) [(50, 7), (50, 8), (50, 9), (50, 10)] := by
  refine EvM.of2 (lo := [some (.ref 1), some (.int a0), some (.int a1), some (.int a2)]) pf_X9_step ok_X9_step rfl rfl ?_
  have hJ0 : JW [(50, 7), (50, 8), (50, 9), (50, 10)] h h := JW.refl hB
  refine ev_aload_n rfl rfl rfl ?_
  refine ev_getR (y := 50) rfl rfl fl_X9_64 rfl rfl rfl rfl ?_
  refine ev_iload_n rfl rfl rfl ?_
  refine ev_V1P rfl rfl lk_X9_289 vt_X3_hasBoat rfl rfl rfl rfl rfl (w_X3_hasBoat_50 L b h hJ0.1 a0) (fun r1 q1 => ?_)
  obtain ⟨b1, p1_0⟩ := q1
  refine ev_if_eq rfl rfl (fun c2 => ?_) (fun c2 => ?_)
  · have b3 : B r1 0 0 := R_eqX b1 (by decide : B 0 0 0) c2
    refine ev_iconst (v := (-1)) rfl rfl (by decide) ?_
    exact ev_iret rfl rfl rfl ⟨⟨_, rfl, ((by decide : B (-1) (-1) (-1)).mono (by decide) (by decide))⟩, rfl, hJ0⟩
  · have b4 : B r1 1 1 := R_neL b1 (by decide : B 0 0 0) c2 (by decide)
    have b5 : B a0 0 3 := p1_0 c2
    refine ev_aload_n rfl rfl rfl ?_
    refine ev_getR (y := 50) rfl rfl fl_X9_64 rfl rfl rfl rfl ?_
    refine ev_iload_n rfl rfl rfl ?_
    refine ev_V1P rfl rfl lk_X9_289 vt_X3_hasBoat rfl rfl rfl rfl rfl (w_X3_hasBoat_50 L b h hJ0.1 a1) (fun r6 q6 => ?_)
    obtain ⟨b6, p6_0⟩ := q6
    refine ev_if_eq rfl rfl (fun c7 => ?_) (fun c7 => ?_)
    · have b8 : B r6 0 0 := R_eqX b6 (by decide : B 0 0 0) c7
      refine ev_iconst (v := (-1)) rfl rfl (by decide) ?_
      exact ev_iret rfl rfl rfl ⟨⟨_, rfl, ((by decide : B (-1) (-1) (-1)).mono (by decide) (by decide))⟩, rfl, hJ0⟩
    · have b9 : B r6 1 1 := R_neL b6 (by decide : B 0 0 0) c7 (by decide)
      have b10 : B a1 0 3 := p6_0 c7
      refine ev_iload_n rfl rfl rfl ?_
      refine ev_iload_n rfl rfl rfl ?_
      refine ev_icmp_eq rfl rfl (fun c11 => ?_) (fun c11 => ?_)
      · refine ev_iconst (v := (-1)) rfl rfl (by decide) ?_
        exact ev_iret rfl rfl rfl ⟨⟨_, rfl, ((by decide : B (-1) (-1) (-1)).mono (by decide) (by decide))⟩, rfl, hJ0⟩
      · refine ev_iload_n rfl rfl rfl ?_
        refine ev_iconst (v := 0) rfl rfl (by decide) ?_
        refine ev_iconst (v := 3) rfl rfl (by decide) ?_
        refine ev_S3P rfl rfl lk_X9_75 st_X9_isWithin rfl rfl (w_isWithin (G0 L b) h a2 0 3 (by decide : B 0 0 0) (by decide : B 3 3 3)) (fun r12 q12 => ?_)
        obtain ⟨b12, p12_0⟩ := q12
        refine ev_if_ne rfl rfl (fun c13 => ?_) (fun c13 => ?_)
        · have b14 : B r12 1 1 := R_neL b12 (by decide : B 0 0 0) c13 (by decide)
          have b15 : B a2 0 3 := p12_0 c13
          refine ev_aload_n rfl rfl rfl ?_
          refine ev_getR (y := 50) rfl rfl fl_X9_64 rfl rfl rfl rfl ?_
          refine ev_iload_n rfl rfl rfl ?_
          refine ev_iload_n rfl rfl rfl ?_
          refine ev_V2N hJ0 rfl rfl rfl lk_X9_295 vt_X3_walk rfl rfl rfl rfl rfl (w_X3_walk_50 L b h hJ0.1 a0 b5 a1 b10) (fun h17 hJ17 k17  => ?_)
          refine ev_iload_n rfl rfl rfl ?_
          rcases ev_sw a2 0 2 with w18 | w18
          · refine ev_tabOut 100 rfl w18 (by decide) ?_
            refine ev_aload_n rfl rfl rfl ?_
            refine ev_getR (y := 50) rfl rfl fl_X9_64 rfl rfl rfl rfl ?_
            refine ev_getW (l := (-2147483648)) (u := 2147483647) hJ17.1 rfl rfl rfl fl_X9_308 rfl rfl rfl (fun v19 b19 e19 => ?_)
            exact ev_iret rfl rfl rfl ⟨⟨_, rfl, (B.any v19)⟩, rfl, hJ17⟩
          · have w18b : a2 = 0 ∨ a2 = 1 ∨ a2 = 2 := sw_or3_0 w18
            rcases w18b with rfl | rfl | rfl
            · refine ev_tabIn 76 rfl (by decide) (by decide) rfl (by decide) ?_
              refine ev_aload_n rfl rfl rfl ?_
              refine ev_getR (y := 50) rfl rfl fl_X9_64 rfl rfl rfl rfl ?_
              refine ev_getW (l := (-2147483648)) (u := 2147483647) hJ17.1 rfl rfl rfl fl_X9_299 rfl rfl rfl (fun v20 b20 e20 => ?_)
              exact ev_iret rfl rfl rfl ⟨⟨_, rfl, (B.any v20)⟩, rfl, hJ17⟩
            · refine ev_tabIn 84 rfl (by decide) (by decide) rfl (by decide) ?_
              refine ev_aload_n rfl rfl rfl ?_
              refine ev_getR (y := 50) rfl rfl fl_X9_64 rfl rfl rfl rfl ?_
              refine ev_getW (l := (-2147483648)) (u := 2147483647) hJ17.1 rfl rfl rfl fl_X9_302 rfl rfl rfl (fun v21 b21 e21 => ?_)
              exact ev_iret rfl rfl rfl ⟨⟨_, rfl, (B.any v21)⟩, rfl, hJ17⟩
            · refine ev_tabIn 92 rfl (by decide) (by decide) rfl (by decide) ?_
              refine ev_aload_n rfl rfl rfl ?_
              refine ev_getR (y := 50) rfl rfl fl_X9_64 rfl rfl rfl rfl ?_
              refine ev_getW (l := (-2147483648)) (u := 2147483647) hJ17.1 rfl rfl rfl fl_X9_305 rfl rfl rfl (fun v22 b22 e22 => ?_)
              exact ev_iret rfl rfl rfl ⟨⟨_, rfl, (B.any v22)⟩, rfl, hJ17⟩
        · have b16 : B r12 0 0 := R_eqX b12 (by decide : B 0 0 0) c13
          refine ev_iconst (v := (-1)) rfl rfl (by decide) ?_
          exact ev_iret rfl rfl rfl ⟨⟨_, rfl, ((by decide : B (-1) (-1) (-1)).mono (by decide) (by decide))⟩, rfl, hJ0⟩

set_option maxRecDepth 100000 in
set_option maxHeartbeats 4000000 in
theorem w_X9_boat_1 (L : Nat) (b : Bool) (h : Hp) (hB : Bx h) (a0 : Int32) (a1 : Int32) : EvJ mi_X9_boat [.ref 1, .int a0, .int a1] (G0 L b) h (fun r : Int32 => B r (-3) 3) [(50, 2), (51, 999), (52, 999)] := by
  refine EvM.of2 (lo := [some (.ref 1), some (.int a0), some (.int a1)]) pf_X9_boat ok_X9_boat rfl rfl ?_
  have hJ0 : JW [(50, 2), (51, 999), (52, 999)] h h := JW.refl hB
  refine ev_iload_n rfl rfl rfl ?_
  refine ev_S1P rfl rfl lk_X9_271 st_X9_isPlace rfl rfl (w_X9_isPlace L b h hJ0.1 a0) (fun r1 q1 => ?_)
  obtain ⟨b1, p1_0⟩ := q1
  refine ev_if_eq rfl rfl (fun c2 => ?_) (fun c2 => ?_)
  · have b3 : B r1 0 0 := R_eqX b1 (by decide : B 0 0 0) c2
    refine ev_iconst (v := (-1)) rfl rfl (by decide) ?_
    exact ev_iret rfl rfl rfl ⟨⟨_, rfl, ((by decide : B (-1) (-1) (-1)).mono (by decide) (by decide))⟩, rfl, hJ0⟩
  · have b4 : B r1 1 1 := R_neL b1 (by decide : B 0 0 0) c2 (by decide)
    have b5 : B a0 0 999 := p1_0 c2
    refine ev_iload_n rfl rfl rfl ?_
    refine ev_iconst (v := 0) rfl rfl (by decide) ?_
    refine ev_bipush (v := 99) rfl rfl (by decide) ?_
    refine ev_S3P rfl rfl lk_X9_75 st_X9_isWithin rfl rfl (w_isWithin (G0 L b) h a1 0 99 (by decide : B 0 0 0) (by decide : B 99 99 99)) (fun r6 q6 => ?_)
    obtain ⟨b6, p6_0⟩ := q6
    refine ev_if_ne rfl rfl (fun c7 => ?_) (fun c7 => ?_)
    · have b8 : B r6 1 1 := R_neL b6 (by decide : B 0 0 0) c7 (by decide)
      have b9 : B a1 0 99 := p6_0 c7
      refine ev_aload_n rfl rfl rfl ?_
      refine ev_getR (y := 50) rfl rfl fl_X9_64 rfl rfl rfl rfl ?_
      refine ev_iload_n rfl rfl rfl ?_
      refine ev_iload_n rfl rfl rfl ?_
      refine ev_V2J hJ0 rfl rfl rfl lk_X9_274 vt_X3_addBoat rfl rfl rfl rfl rfl (w_X3_addBoat_50 L b h hJ0.1 a0 a1) (fun r11 h11 q11 hJ11 k11 => ?_)
      exact ev_iret rfl rfl rfl ⟨⟨_, rfl, q11⟩, rfl, hJ11⟩
    · have b10 : B r6 0 0 := R_eqX b6 (by decide : B 0 0 0) c7
      refine ev_iconst (v := (-1)) rfl rfl (by decide) ?_
      exact ev_iret rfl rfl rfl ⟨⟨_, rfl, ((by decide : B (-1) (-1) (-1)).mono (by decide) (by decide))⟩, rfl, hJ0⟩

set_option maxRecDepth 100000 in
set_option maxHeartbeats 4000000 in
theorem w_X9_bend_1 (L : Nat) (b : Bool) (h : Hp) (hB : Bx h) (a0 : Int32) (a1 : Int32) : EvJ mi_X9_bend [.ref 1, .int a0, .int a1] (G0 L b) h (fun r : Int32 => B r (-3) 6) [(50, 5), (53, 999), (54, 999)] := by
  refine EvM.of2 (lo := [some (.ref 1), some (.int a0), some (.int a1)]) pf_X9_bend ok_X9_bend rfl rfl ?_
  have hJ0 : JW [(50, 5), (53, 999), (54, 999)] h h := JW.refl hB
  refine ev_iload_n rfl rfl rfl ?_
  refine ev_S1P rfl rfl lk_X9_271 st_X9_isPlace rfl rfl (w_X9_isPlace L b h hJ0.1 a0) (fun r1 q1 => ?_)
  obtain ⟨b1, p1_0⟩ := q1
  refine ev_if_eq rfl rfl (fun c2 => ?_) (fun c2 => ?_)
  · have b3 : B r1 0 0 := R_eqX b1 (by decide : B 0 0 0) c2
    refine ev_iconst (v := (-1)) rfl rfl (by decide) ?_
    exact ev_iret rfl rfl rfl ⟨⟨_, rfl, ((by decide : B (-1) (-1) (-1)).mono (by decide) (by decide))⟩, rfl, hJ0⟩
  · have b4 : B r1 1 1 := R_neL b1 (by decide : B 0 0 0) c2 (by decide)
    have b5 : B a0 0 999 := p1_0 c2
    refine ev_iload_n rfl rfl rfl ?_
    refine ev_iconst (v := 1) rfl rfl (by decide) ?_
    refine ev_bipush (v := 99) rfl rfl (by decide) ?_
    refine ev_S3P rfl rfl lk_X9_75 st_X9_isWithin rfl rfl (w_isWithin (G0 L b) h a1 1 99 (by decide : B 1 1 1) (by decide : B 99 99 99)) (fun r6 q6 => ?_)
    obtain ⟨b6, p6_0⟩ := q6
    refine ev_if_eq rfl rfl (fun c7 => ?_) (fun c7 => ?_)
    · have b8 : B r6 0 0 := R_eqX b6 (by decide : B 0 0 0) c7
      refine ev_iconst (v := (-1)) rfl rfl (by decide) ?_
      exact ev_iret rfl rfl rfl ⟨⟨_, rfl, ((by decide : B (-1) (-1) (-1)).mono (by decide) (by decide))⟩, rfl, hJ0⟩
    · have b9 : B r6 1 1 := R_neL b6 (by decide : B 0 0 0) c7 (by decide)
      have b10 : B a1 1 99 := p6_0 c7
      refine ev_aload_n rfl rfl rfl ?_
      refine ev_getR (y := 50) rfl rfl fl_X9_64 rfl rfl rfl rfl ?_
      refine ev_iload_n rfl rfl rfl ?_
      refine ev_V1P rfl rfl lk_X9_277 vt_X3_bendsAt rfl rfl rfl rfl rfl (w_X3_bendsAt_50 L b h hJ0.1 a0) (fun r11 q11 => ?_)
      refine ev_if_eq rfl rfl (fun c12 => ?_) (fun c12 => ?_)
      · have b13 : B r11 0 0 := R_eqX q11 (by decide : B 0 0 0) c12
        refine ev_aload_n rfl rfl rfl ?_
        refine ev_getR (y := 50) rfl rfl fl_X9_64 rfl rfl rfl rfl ?_
        refine ev_iload_n rfl rfl rfl ?_
        refine ev_iload_n rfl rfl rfl ?_
        refine ev_V2J hJ0 rfl rfl rfl lk_X9_280 vt_X3_addBend rfl rfl rfl rfl rfl (w_X3_addBend_50 L b h hJ0.1 a0 a1) (fun r15 h15 q15 hJ15 k15 => ?_)
        exact ev_iret rfl rfl rfl ⟨⟨_, rfl, q15⟩, rfl, hJ15⟩
      · have b14 : B r11 1 1 := R_neL q11 (by decide : B 0 0 0) c12 (by decide)
        refine ev_iconst (v := (-1)) rfl rfl (by decide) ?_
        exact ev_iret rfl rfl rfl ⟨⟨_, rfl, ((by decide : B (-1) (-1) (-1)).mono (by decide) (by decide))⟩, rfl, hJ0⟩

set_option maxRecDepth 100000 in
set_option maxHeartbeats 4000000 in
theorem w_X9_speed_1 (L : Nat) (b : Bool) (h : Hp) (hB : Bx h) (a0 : Int32) : EvJ mi_X9_speed [.ref 1, .int a0] (G0 L b) h (fun r : Int32 => B r (-2147483648) 2147483647) [(50, 6)] := by
  refine EvM.of2 (lo := [some (.ref 1), some (.int a0), none]) pf_X9_speed ok_X9_speed rfl rfl ?_
  have hJ0 : JW [(50, 6)] h h := JW.refl hB
  refine ev_iload_n rfl rfl rfl ?_
  refine ev_iconst (v := 1) rfl rfl (by decide) ?_
  refine ev_bipush (v := 99) rfl rfl (by decide) ?_
  refine ev_S3P rfl rfl lk_X9_75 st_X9_isWithin rfl rfl (w_isWithin (G0 L b) h a0 1 99 (by decide : B 1 1 1) (by decide : B 99 99 99)) (fun r1 q1 => ?_)
  obtain ⟨b1, p1_0⟩ := q1
  refine ev_if_ne rfl rfl (fun c2 => ?_) (fun c2 => ?_)
  · have b3 : B r1 1 1 := R_neL b1 (by decide : B 0 0 0) c2 (by decide)
    have b4 : B a0 1 99 := p1_0 c2
    refine ev_aload_n rfl rfl rfl ?_
    refine ev_getR (y := 50) rfl rfl fl_X9_64 rfl rfl rfl rfl ?_
    refine ev_getW (l := (-2147483648)) (u := 2147483647) hJ0.1 rfl rfl rfl fl_X9_283 rfl rfl rfl (fun v6 b6 e6 => ?_)
    refine ev_istore_n rfl rfl rfl rfl ?_
    dsimp only [List.set]
    refine ev_aload_n rfl rfl rfl ?_
    refine ev_getR (y := 50) rfl rfl fl_X9_64 rfl rfl rfl rfl ?_
    refine ev_iload_n rfl rfl rfl ?_
    refine ev_putW (l := (-2147483648)) (u := 2147483647) hJ0 rfl b4 (by decide) (by decide) rfl rfl rfl fl_X9_283 rfl rfl rfl rfl rfl (fun h7 hJ7 k7 => ?_)
    refine ev_iload_n rfl rfl rfl ?_
    exact ev_iret rfl rfl rfl ⟨⟨_, rfl, (B.any v6)⟩, rfl, hJ7⟩
  · have b5 : B r1 0 0 := R_eqX b1 (by decide : B 0 0 0) c2
    refine ev_iconst (v := (-1)) rfl rfl (by decide) ?_
    exact ev_iret rfl rfl rfl ⟨⟨_, rfl, ((by decide : B (-1) (-1) (-1)).mono (by decide) (by decide))⟩, rfl, hJ0⟩

set_option maxRecDepth 100000 in
set_option maxHeartbeats 4000000 in
theorem w_X5_has_55 (L : Nat) (b : Bool) (h : Hp) (hB : Bx h) (a0 : Int32) : EvP mi_X5_has [.ref 55, .int a0] (G0 L b) h (fun r : Int32 => B r 0 1 ∧ (¬ r = 0 → B a0 0 3)) := by
  refine EvM.of2 (lo := [some (.ref 55), some (.int a0)]) pf_X5_has ok_X5_has rfl rfl ?_
  refine ev_iconst (v := 0) rfl rfl (by decide) ?_
  refine ev_iload_n rfl rfl rfl ?_
  refine ev_icmp_gt rfl rfl (fun c1 => ?_) (fun c1 => ?_)
  · have b2 : B a0 (-2147483648) (-1) := R_ltX (B.any a0) (by decide : B 0 0 0) c1 (by decide)
    refine ev_iconst (v := 0) rfl rfl (by decide) ?_
    exact ev_iret rfl rfl rfl ⟨⟨_, rfl, ⟨((by decide : B 0 0 0).mono (by decide) (by decide)), (fun e_ => absurd rfl e_)⟩⟩, rfl, rfl⟩
  · have b3 : B a0 0 2147483647 := R_leY (by decide : B 0 0 0) (B.any a0) (Int32.not_lt.mp c1) (by decide)
    refine ev_iload_n rfl rfl rfl ?_
    refine ev_iconst (v := 4) rfl rfl (by decide) ?_
    refine ev_icmp_ge rfl rfl (fun c4 => ?_) (fun c4 => ?_)
    · have b5 : B a0 4 2147483647 := R_leY (by decide : B 4 4 4) b3 c4 (by decide)
      refine ev_iconst (v := 0) rfl rfl (by decide) ?_
      exact ev_iret rfl rfl rfl ⟨⟨_, rfl, ⟨((by decide : B 0 0 0).mono (by decide) (by decide)), (fun e_ => absurd rfl e_)⟩⟩, rfl, rfl⟩
    · have b6 : B a0 0 3 := R_ltX b3 (by decide : B 4 4 4) (Int32.not_le.mp c4) (by decide)
      refine ev_iconst (v := 1) rfl rfl (by decide) ?_
      refine ev_goto rfl rfl ?_
      exact ev_iret rfl rfl rfl ⟨⟨_, rfl, ⟨((by decide : B 1 1 1).mono (by decide) (by decide)), (fun _ => b6)⟩⟩, rfl, rfl⟩

set_option maxRecDepth 100000 in
set_option maxHeartbeats 4000000 in
theorem w_X5_isLane_55 (L : Nat) (b : Bool) (h : Hp) (hB : Bx h) (a0 : Int32) : EvP mi_X5_isLane [.ref 55, .int a0] (G0 L b) h (fun r : Int32 => B r 0 1 ∧ (¬ r = 0 → B a0 0 2)) := by
  refine EvM.of2 (lo := [some (.ref 55), some (.int a0)]) pf_X5_isLane ok_X5_isLane rfl rfl ?_
  refine ev_iconst (v := 0) rfl rfl (by decide) ?_
  refine ev_iload_n rfl rfl rfl ?_
  refine ev_icmp_gt rfl rfl (fun c1 => ?_) (fun c1 => ?_)
  · have b2 : B a0 (-2147483648) (-1) := R_ltX (B.any a0) (by decide : B 0 0 0) c1 (by decide)
    refine ev_iconst (v := 0) rfl rfl (by decide) ?_
    exact ev_iret rfl rfl rfl ⟨⟨_, rfl, ⟨((by decide : B 0 0 0).mono (by decide) (by decide)), (fun e_ => absurd rfl e_)⟩⟩, rfl, rfl⟩
  · have b3 : B a0 0 2147483647 := R_leY (by decide : B 0 0 0) (B.any a0) (Int32.not_lt.mp c1) (by decide)
    refine ev_iload_n rfl rfl rfl ?_
    refine ev_iconst (v := 2) rfl rfl (by decide) ?_
    refine ev_icmp_gt rfl rfl (fun c4 => ?_) (fun c4 => ?_)
    · have b5 : B a0 3 2147483647 := R_ltY (by decide : B 2 2 2) b3 c4 (by decide)
      refine ev_iconst (v := 0) rfl rfl (by decide) ?_
      exact ev_iret rfl rfl rfl ⟨⟨_, rfl, ⟨((by decide : B 0 0 0).mono (by decide) (by decide)), (fun e_ => absurd rfl e_)⟩⟩, rfl, rfl⟩
    · have b6 : B a0 0 2 := R_leX b3 (by decide : B 2 2 2) (Int32.not_lt.mp c4) (by decide)
      refine ev_iconst (v := 1) rfl rfl (by decide) ?_
      refine ev_goto rfl rfl ?_
      exact ev_iret rfl rfl rfl ⟨⟨_, rfl, ⟨((by decide : B 1 1 1).mono (by decide) (by decide)), (fun _ => b6)⟩⟩, rfl, rfl⟩

set_option maxRecDepth 100000 in
set_option maxHeartbeats 4000000 in
theorem w_J7_fill_53178_57 (L : Nat) (b : Bool) (h : Hp) (hB : Bx h) (a0 : Int32) : EvN mi_J7_fill_53178 [.ref 57, .int a0] (G0 L b) h [(57, 999)] := by
  refine EvM.of2 (lo := [some (.ref 57), some (.int a0), none, none]) pf_J7_fill_53178 ok_J7_fill_53178 rfl rfl ?_
  have hJ0 : JW [(57, 999)] h h := JW.refl hB
  refine ev_iconst (v := 0) rfl rfl (by decide) ?_
  refine ev_istore_n rfl rfl rfl rfl ?_
  dsimp only [List.set]
  refine ev_aload_n rfl rfl rfl ?_
  refine ev_alen (n := 60) rfl rfl rfl ?_
  rw [show nI 60 = 60 from rfl]
  refine ev_istore_n rfl rfl rfl rfl ?_
  dsimp only [List.set]
  have lp5_41 : ∀ (n : Nat) (w42 : Int32) (h44 : Hp), B w42 0 60 → JW [(57, 999)] h h44 → 60 + 1 - w42.toInt ≤ (n : Int) → EvQ mi_J7_fill_53178 5 [some (.ref 57), some (.int a0), some (.int w42), some (.int 60)] [] (G0 L b) h44 0 0 (QN [(57, 999)] (G0 L b) h) := by
    intro n
    induction n with
    | zero =>
      intro w42 h44 b43 hJ45 hm5
      exact absurd hm5 (L_zero b43 (by decide))
    | succ n ih5 =>
      intro w42 h44 b43 hJ45 hm5
      refine ev_iload_n rfl rfl rfl ?_
      refine ev_iload_n rfl rfl rfl ?_
      refine ev_icmp_ge rfl rfl (fun c46 => ?_) (fun c46 => ?_)
      · have b47 : B w42 60 60 := R_leY (by decide : B 60 60 60) b43 c46 (by decide)
        exact ev_vret rfl rfl trivial ⟨rfl, rfl, hJ45⟩
      · have b48 : B w42 0 59 := R_ltX b43 (by decide : B 60 60 60) (Int32.not_le.mp c46) (by decide)
        refine ev_aload_n rfl rfl rfl ?_
        refine ev_iload_n rfl rfl rfl ?_
        refine ev_iload_n rfl rfl rfl ?_
        refine ev_iasW (n := 60) (l := (-2147483648)) (u := 2147483647) hJ45 b48 (by decide) (by decide) (fun _ => rfl) (B.any a0) (by decide) (by decide) (fun _ => rfl) rfl rfl rfl rfl (fun h49 hJ49 k49 => ?_)
        refine ev_iincB (y := 1) (l := 1) (u := 60) rfl rfl rfl (by decide) rfl rfl b48 (by decide : B 1 1 1) (by decide) (by decide) (by decide) (by decide) (fun v50 b50 e50 => ?_)
        dsimp only [List.set]
        refine ev_goto rfl rfl ?_
        exact (ih5 v50 h49 (b50.mono (by decide) (by decide)) hJ49 (L_up hm5 (e_p1 e50 (by decide))))
  exact (lp5_41 61 0 h ((by decide : B 0 0 0).mono (by decide) (by decide)) hJ0 (L_init (by decide : B 0 0 0) (by decide)))

set_option maxRecDepth 100000 in
set_option maxHeartbeats 4000000 in
theorem w_J7_fill_53178_58 (L : Nat) (b : Bool) (h : Hp) (hB : Bx h) (a0 : Int32) : EvN mi_J7_fill_53178 [.ref 58, .int a0] (G0 L b) h [(58, 999)] := by
  refine EvM.of2 (lo := [some (.ref 58), some (.int a0), none, none]) pf_J7_fill_53178 ok_J7_fill_53178 rfl rfl ?_
  have hJ0 : JW [(58, 999)] h h := JW.refl hB
  refine ev_iconst (v := 0) rfl rfl (by decide) ?_
  refine ev_istore_n rfl rfl rfl rfl ?_
  dsimp only [List.set]
  refine ev_aload_n rfl rfl rfl ?_
  refine ev_alen (n := 60) rfl rfl rfl ?_
  rw [show nI 60 = 60 from rfl]
  refine ev_istore_n rfl rfl rfl rfl ?_
  dsimp only [List.set]
  have lp5_41 : ∀ (n : Nat) (w42 : Int32) (h44 : Hp), B w42 0 60 → JW [(58, 999)] h h44 → 60 + 1 - w42.toInt ≤ (n : Int) → EvQ mi_J7_fill_53178 5 [some (.ref 58), some (.int a0), some (.int w42), some (.int 60)] [] (G0 L b) h44 0 0 (QN [(58, 999)] (G0 L b) h) := by
    intro n
    induction n with
    | zero =>
      intro w42 h44 b43 hJ45 hm5
      exact absurd hm5 (L_zero b43 (by decide))
    | succ n ih5 =>
      intro w42 h44 b43 hJ45 hm5
      refine ev_iload_n rfl rfl rfl ?_
      refine ev_iload_n rfl rfl rfl ?_
      refine ev_icmp_ge rfl rfl (fun c46 => ?_) (fun c46 => ?_)
      · have b47 : B w42 60 60 := R_leY (by decide : B 60 60 60) b43 c46 (by decide)
        exact ev_vret rfl rfl trivial ⟨rfl, rfl, hJ45⟩
      · have b48 : B w42 0 59 := R_ltX b43 (by decide : B 60 60 60) (Int32.not_le.mp c46) (by decide)
        refine ev_aload_n rfl rfl rfl ?_
        refine ev_iload_n rfl rfl rfl ?_
        refine ev_iload_n rfl rfl rfl ?_
        refine ev_iasW (n := 60) (l := (-2147483648)) (u := 2147483647) hJ45 b48 (by decide) (by decide) (fun _ => rfl) (B.any a0) (by decide) (by decide) (fun _ => rfl) rfl rfl rfl rfl (fun h49 hJ49 k49 => ?_)
        refine ev_iincB (y := 1) (l := 1) (u := 60) rfl rfl rfl (by decide) rfl rfl b48 (by decide : B 1 1 1) (by decide) (by decide) (by decide) (by decide) (fun v50 b50 e50 => ?_)
        dsimp only [List.set]
        refine ev_goto rfl rfl ?_
        exact (ih5 v50 h49 (b50.mono (by decide) (by decide)) hJ49 (L_up hm5 (e_p1 e50 (by decide))))
  exact (lp5_41 61 0 h ((by decide : B 0 0 0).mono (by decide) (by decide)) hJ0 (L_init (by decide : B 0 0 0) (by decide)))

set_option maxRecDepth 100000 in
set_option maxHeartbeats 4000000 in
theorem w_J7_fill_53178_59 (L : Nat) (b : Bool) (h : Hp) (hB : Bx h) (a0 : Int32) : EvN mi_J7_fill_53178 [.ref 59, .int a0] (G0 L b) h [(59, 999)] := by
  refine EvM.of2 (lo := [some (.ref 59), some (.int a0), none, none]) pf_J7_fill_53178 ok_J7_fill_53178 rfl rfl ?_
  have hJ0 : JW [(59, 999)] h h := JW.refl hB
  refine ev_iconst (v := 0) rfl rfl (by decide) ?_
  refine ev_istore_n rfl rfl rfl rfl ?_
  dsimp only [List.set]
  refine ev_aload_n rfl rfl rfl ?_
  refine ev_alen (n := 60) rfl rfl rfl ?_
  rw [show nI 60 = 60 from rfl]
  refine ev_istore_n rfl rfl rfl rfl ?_
  dsimp only [List.set]
  have lp5_41 : ∀ (n : Nat) (w42 : Int32) (h44 : Hp), B w42 0 60 → JW [(59, 999)] h h44 → 60 + 1 - w42.toInt ≤ (n : Int) → EvQ mi_J7_fill_53178 5 [some (.ref 59), some (.int a0), some (.int w42), some (.int 60)] [] (G0 L b) h44 0 0 (QN [(59, 999)] (G0 L b) h) := by
    intro n
    induction n with
    | zero =>
      intro w42 h44 b43 hJ45 hm5
      exact absurd hm5 (L_zero b43 (by decide))
    | succ n ih5 =>
      intro w42 h44 b43 hJ45 hm5
      refine ev_iload_n rfl rfl rfl ?_
      refine ev_iload_n rfl rfl rfl ?_
      refine ev_icmp_ge rfl rfl (fun c46 => ?_) (fun c46 => ?_)
      · have b47 : B w42 60 60 := R_leY (by decide : B 60 60 60) b43 c46 (by decide)
        exact ev_vret rfl rfl trivial ⟨rfl, rfl, hJ45⟩
      · have b48 : B w42 0 59 := R_ltX b43 (by decide : B 60 60 60) (Int32.not_le.mp c46) (by decide)
        refine ev_aload_n rfl rfl rfl ?_
        refine ev_iload_n rfl rfl rfl ?_
        refine ev_iload_n rfl rfl rfl ?_
        refine ev_iasW (n := 60) (l := (-2147483648)) (u := 2147483647) hJ45 b48 (by decide) (by decide) (fun _ => rfl) (B.any a0) (by decide) (by decide) (fun _ => rfl) rfl rfl rfl rfl (fun h49 hJ49 k49 => ?_)
        refine ev_iincB (y := 1) (l := 1) (u := 60) rfl rfl rfl (by decide) rfl rfl b48 (by decide : B 1 1 1) (by decide) (by decide) (by decide) (by decide) (fun v50 b50 e50 => ?_)
        dsimp only [List.set]
        refine ev_goto rfl rfl ?_
        exact (ih5 v50 h49 (b50.mono (by decide) (by decide)) hJ49 (L_up hm5 (e_p1 e50 (by decide))))
  exact (lp5_41 61 0 h ((by decide : B 0 0 0).mono (by decide) (by decide)) hJ0 (L_init (by decide : B 0 0 0) (by decide)))

set_option maxRecDepth 100000 in
set_option maxHeartbeats 4000000 in
theorem w_J7_fill_53178_60 (L : Nat) (b : Bool) (h : Hp) (hB : Bx h) (a0 : Int32) : EvN mi_J7_fill_53178 [.ref 60, .int a0] (G0 L b) h [(60, 999)] := by
  refine EvM.of2 (lo := [some (.ref 60), some (.int a0), none, none]) pf_J7_fill_53178 ok_J7_fill_53178 rfl rfl ?_
  have hJ0 : JW [(60, 999)] h h := JW.refl hB
  refine ev_iconst (v := 0) rfl rfl (by decide) ?_
  refine ev_istore_n rfl rfl rfl rfl ?_
  dsimp only [List.set]
  refine ev_aload_n rfl rfl rfl ?_
  refine ev_alen (n := 60) rfl rfl rfl ?_
  rw [show nI 60 = 60 from rfl]
  refine ev_istore_n rfl rfl rfl rfl ?_
  dsimp only [List.set]
  have lp5_41 : ∀ (n : Nat) (w42 : Int32) (h44 : Hp), B w42 0 60 → JW [(60, 999)] h h44 → 60 + 1 - w42.toInt ≤ (n : Int) → EvQ mi_J7_fill_53178 5 [some (.ref 60), some (.int a0), some (.int w42), some (.int 60)] [] (G0 L b) h44 0 0 (QN [(60, 999)] (G0 L b) h) := by
    intro n
    induction n with
    | zero =>
      intro w42 h44 b43 hJ45 hm5
      exact absurd hm5 (L_zero b43 (by decide))
    | succ n ih5 =>
      intro w42 h44 b43 hJ45 hm5
      refine ev_iload_n rfl rfl rfl ?_
      refine ev_iload_n rfl rfl rfl ?_
      refine ev_icmp_ge rfl rfl (fun c46 => ?_) (fun c46 => ?_)
      · have b47 : B w42 60 60 := R_leY (by decide : B 60 60 60) b43 c46 (by decide)
        exact ev_vret rfl rfl trivial ⟨rfl, rfl, hJ45⟩
      · have b48 : B w42 0 59 := R_ltX b43 (by decide : B 60 60 60) (Int32.not_le.mp c46) (by decide)
        refine ev_aload_n rfl rfl rfl ?_
        refine ev_iload_n rfl rfl rfl ?_
        refine ev_iload_n rfl rfl rfl ?_
        refine ev_iasW (n := 60) (l := (-2147483648)) (u := 2147483647) hJ45 b48 (by decide) (by decide) (fun _ => rfl) (B.any a0) (by decide) (by decide) (fun _ => rfl) rfl rfl rfl rfl (fun h49 hJ49 k49 => ?_)
        refine ev_iincB (y := 1) (l := 1) (u := 60) rfl rfl rfl (by decide) rfl rfl b48 (by decide : B 1 1 1) (by decide) (by decide) (by decide) (by decide) (fun v50 b50 e50 => ?_)
        dsimp only [List.set]
        refine ev_goto rfl rfl ?_
        exact (ih5 v50 h49 (b50.mono (by decide) (by decide)) hJ49 (L_up hm5 (e_p1 e50 (by decide))))
  exact (lp5_41 61 0 h ((by decide : B 0 0 0).mono (by decide) (by decide)) hJ0 (L_init (by decide : B 0 0 0) (by decide)))

set_option maxRecDepth 100000 in
set_option maxHeartbeats 4000000 in
theorem w_X5_renew_55 (L : Nat) (b : Bool) (h : Hp) (hB : Bx h) (a0 : Int32) (p0 : B a0 0 3) (a1 : Int32) (a2 : Int32) (p2 : B a2 0 60) : EvN mi_X5_renew [.ref 55, .int a0, .int a1, .int a2] (G0 L b) h [(57, 999), (58, 999), (59, 999), (60, 999), (61, 999), (62, 999)] := by
  refine EvM.of2 (lo := [some (.ref 55), some (.int a0), some (.int a1), some (.int a2)]) pf_X5_renew ok_X5_renew rfl rfl ?_
  have hJ0 : JW [(57, 999), (58, 999), (59, 999), (60, 999), (61, 999), (62, 999)] h h := JW.refl hB
  refine ev_aload_n rfl rfl rfl ?_
  refine ev_getR (y := 56) rfl rfl fl_X5_11 rfl rfl rfl rfl ?_
  refine ev_iload_n rfl rfl rfl ?_
  rcases B.c4 p0 with rfl | rfl | rfl | rfl
  · refine ev_aald (y := 57) (j := 0) rfl rfl rfl rfl (by unfold vp_in; decide) (by decide) rfl ?_
    refine ev_iconst (v := 0) rfl rfl (by decide) ?_
    refine ev_S2N hJ0 rfl rfl rfl lk_X5_25 st_J7_fill_53178 rfl rfl (w_J7_fill_53178_57 L b h hJ0.1 0) (fun h1 hJ1 k1  => ?_)
    refine ev_aload_n rfl rfl rfl ?_
    refine ev_getR (y := 61) rfl rfl fl_X5_14 rfl rfl rfl rfl ?_
    refine ev_iload_n rfl rfl rfl ?_
    refine ev_iload_n rfl rfl rfl ?_
    refine ev_iasW (n := 4) (l := (-2147483648)) (u := 2147483647) hJ1 (by decide : B 0 0 0) (by decide) (by decide) (fun _ => rfl) (B.any a1) (by decide) (by decide) (fun _ => rfl) rfl rfl rfl rfl (fun h2 hJ2 k2 => ?_)
    refine ev_aload_n rfl rfl rfl ?_
    refine ev_getR (y := 62) rfl rfl fl_X5_18 rfl rfl rfl rfl ?_
    refine ev_iload_n rfl rfl rfl ?_
    refine ev_iload_n rfl rfl rfl ?_
    refine ev_iasW (n := 4) (l := (-1)) (u := 60) hJ2 (by decide : B 0 0 0) (by decide) (by decide) (fun _ => rfl) p2 (by decide) (by decide) (fun _ => rfl) rfl rfl rfl rfl (fun h3 hJ3 k3 => ?_)
    exact ev_vret rfl rfl trivial ⟨rfl, rfl, hJ3⟩
  · refine ev_aald (y := 58) (j := 1) rfl rfl rfl rfl (by unfold vp_in; decide) (by decide) rfl ?_
    refine ev_iconst (v := 0) rfl rfl (by decide) ?_
    refine ev_S2N hJ0 rfl rfl rfl lk_X5_25 st_J7_fill_53178 rfl rfl (w_J7_fill_53178_58 L b h hJ0.1 0) (fun h4 hJ4 k4  => ?_)
    refine ev_aload_n rfl rfl rfl ?_
    refine ev_getR (y := 61) rfl rfl fl_X5_14 rfl rfl rfl rfl ?_
    refine ev_iload_n rfl rfl rfl ?_
    refine ev_iload_n rfl rfl rfl ?_
    refine ev_iasW (n := 4) (l := (-2147483648)) (u := 2147483647) hJ4 (by decide : B 1 1 1) (by decide) (by decide) (fun _ => rfl) (B.any a1) (by decide) (by decide) (fun _ => rfl) rfl rfl rfl rfl (fun h5 hJ5 k5 => ?_)
    refine ev_aload_n rfl rfl rfl ?_
    refine ev_getR (y := 62) rfl rfl fl_X5_18 rfl rfl rfl rfl ?_
    refine ev_iload_n rfl rfl rfl ?_
    refine ev_iload_n rfl rfl rfl ?_
    refine ev_iasW (n := 4) (l := (-1)) (u := 60) hJ5 (by decide : B 1 1 1) (by decide) (by decide) (fun _ => rfl) p2 (by decide) (by decide) (fun _ => rfl) rfl rfl rfl rfl (fun h6 hJ6 k6 => ?_)
    exact ev_vret rfl rfl trivial ⟨rfl, rfl, hJ6⟩
  · refine ev_aald (y := 59) (j := 2) rfl rfl rfl rfl (by unfold vp_in; decide) (by decide) rfl ?_
    refine ev_iconst (v := 0) rfl rfl (by decide) ?_
    refine ev_S2N hJ0 rfl rfl rfl lk_X5_25 st_J7_fill_53178 rfl rfl (w_J7_fill_53178_59 L b h hJ0.1 0) (fun h7 hJ7 k7  => ?_)
    refine ev_aload_n rfl rfl rfl ?_
    refine ev_getR (y := 61) rfl rfl fl_X5_14 rfl rfl rfl rfl ?_
    refine ev_iload_n rfl rfl rfl ?_
    refine ev_iload_n rfl rfl rfl ?_
    refine ev_iasW (n := 4) (l := (-2147483648)) (u := 2147483647) hJ7 (by decide : B 2 2 2) (by decide) (by decide) (fun _ => rfl) (B.any a1) (by decide) (by decide) (fun _ => rfl) rfl rfl rfl rfl (fun h8 hJ8 k8 => ?_)
    refine ev_aload_n rfl rfl rfl ?_
    refine ev_getR (y := 62) rfl rfl fl_X5_18 rfl rfl rfl rfl ?_
    refine ev_iload_n rfl rfl rfl ?_
    refine ev_iload_n rfl rfl rfl ?_
    refine ev_iasW (n := 4) (l := (-1)) (u := 60) hJ8 (by decide : B 2 2 2) (by decide) (by decide) (fun _ => rfl) p2 (by decide) (by decide) (fun _ => rfl) rfl rfl rfl rfl (fun h9 hJ9 k9 => ?_)
    exact ev_vret rfl rfl trivial ⟨rfl, rfl, hJ9⟩
  · refine ev_aald (y := 60) (j := 3) rfl rfl rfl rfl (by unfold vp_in; decide) (by decide) rfl ?_
    refine ev_iconst (v := 0) rfl rfl (by decide) ?_
    refine ev_S2N hJ0 rfl rfl rfl lk_X5_25 st_J7_fill_53178 rfl rfl (w_J7_fill_53178_60 L b h hJ0.1 0) (fun h10 hJ10 k10  => ?_)
    refine ev_aload_n rfl rfl rfl ?_
    refine ev_getR (y := 61) rfl rfl fl_X5_14 rfl rfl rfl rfl ?_
    refine ev_iload_n rfl rfl rfl ?_
    refine ev_iload_n rfl rfl rfl ?_
    refine ev_iasW (n := 4) (l := (-2147483648)) (u := 2147483647) hJ10 (by decide : B 3 3 3) (by decide) (by decide) (fun _ => rfl) (B.any a1) (by decide) (by decide) (fun _ => rfl) rfl rfl rfl rfl (fun h11 hJ11 k11 => ?_)
    refine ev_aload_n rfl rfl rfl ?_
    refine ev_getR (y := 62) rfl rfl fl_X5_18 rfl rfl rfl rfl ?_
    refine ev_iload_n rfl rfl rfl ?_
    refine ev_iload_n rfl rfl rfl ?_
    refine ev_iasW (n := 4) (l := (-1)) (u := 60) hJ11 (by decide : B 3 3 3) (by decide) (by decide) (fun _ => rfl) p2 (by decide) (by decide) (fun _ => rfl) rfl rfl rfl rfl (fun h12 hJ12 k12 => ?_)
    exact ev_vret rfl rfl trivial ⟨rfl, rfl, hJ12⟩

set_option maxRecDepth 100000 in
set_option maxHeartbeats 4000000 in
theorem w_X9_sheet_1 (L : Nat) (b : Bool) (h : Hp) (hB : Bx h) (a0 : Int32) (a1 : Int32) (a2 : Int32) : EvJ mi_X9_sheet [.ref 1, .int a0, .int a1, .int a2] (G0 L b) h (fun r : Int32 => B r (-14) 1) [(57, 999), (58, 999), (59, 999), (60, 999), (61, 999), (62, 999)] := by
  refine EvM.of2 (lo := [some (.ref 1), some (.int a0), some (.int a1), some (.int a2)]) pf_X9_sheet ok_X9_sheet rfl rfl ?_
  have hJ0 : JW [(57, 999), (58, 999), (59, 999), (60, 999), (61, 999), (62, 999)] h h := JW.refl hB
  refine ev_aload_n rfl rfl rfl ?_
  refine ev_getR (y := 55) rfl rfl fl_X9_71 rfl rfl rfl rfl ?_
  refine ev_iload_n rfl rfl rfl ?_
  refine ev_V1P rfl rfl lk_X9_255 vt_X5_has rfl rfl rfl rfl rfl (w_X5_has_55 L b h hJ0.1 a0) (fun r1 q1 => ?_)
  obtain ⟨b1, p1_0⟩ := q1
  refine ev_if_eq rfl rfl (fun c2 => ?_) (fun c2 => ?_)
  · have b3 : B r1 0 0 := R_eqX b1 (by decide : B 0 0 0) c2
    refine ev_iconst (v := (-1)) rfl rfl (by decide) ?_
    exact ev_iret rfl rfl rfl ⟨⟨_, rfl, ((by decide : B (-1) (-1) (-1)).mono (by decide) (by decide))⟩, rfl, hJ0⟩
  · have b4 : B r1 1 1 := R_neL b1 (by decide : B 0 0 0) c2 (by decide)
    have b5 : B a0 0 3 := p1_0 c2
    refine ev_aload_n rfl rfl rfl ?_
    refine ev_getR (y := 55) rfl rfl fl_X9_71 rfl rfl rfl rfl ?_
    refine ev_iload_n rfl rfl rfl ?_
    refine ev_V1P rfl rfl lk_X9_256 vt_X5_isLane rfl rfl rfl rfl rfl (w_X5_isLane_55 L b h hJ0.1 a1) (fun r6 q6 => ?_)
    obtain ⟨b6, p6_0⟩ := q6
    refine ev_if_eq rfl rfl (fun c7 => ?_) (fun c7 => ?_)
    · have b8 : B r6 0 0 := R_eqX b6 (by decide : B 0 0 0) c7
      refine ev_iconst (v := (-1)) rfl rfl (by decide) ?_
      exact ev_iret rfl rfl rfl ⟨⟨_, rfl, ((by decide : B (-1) (-1) (-1)).mono (by decide) (by decide))⟩, rfl, hJ0⟩
    · have b9 : B r6 1 1 := R_neL b6 (by decide : B 0 0 0) c7 (by decide)
      have b10 : B a1 0 2 := p6_0 c7
      refine ev_iload_n rfl rfl rfl ?_
      refine ev_bipush (v := 60) rfl rfl (by decide) ?_
      refine ev_icmp_le rfl rfl (fun c11 => ?_) (fun c11 => ?_)
      · have b12 : B a2 (-2147483648) 60 := R_leX (B.any a2) (by decide : B 60 60 60) c11 (by decide)
        refine ev_iload_n rfl rfl rfl ?_
        refine ev_if_ge rfl rfl (fun c14 => ?_) (fun c14 => ?_)
        · have b15 : B a2 0 60 := R_leY (by decide : B 0 0 0) b12 c14 (by decide)
          refine ev_aload_n rfl rfl rfl ?_
          refine ev_getR (y := 55) rfl rfl fl_X9_71 rfl rfl rfl rfl ?_
          refine ev_iload_n rfl rfl rfl ?_
          refine ev_iload_n rfl rfl rfl ?_
          refine ev_iload_n rfl rfl rfl ?_
          refine ev_V3N hJ0 rfl rfl rfl lk_X9_318 vt_X5_renew rfl rfl rfl rfl rfl (w_X5_renew_55 L b h hJ0.1 a0 b5 a1 a2 b15) (fun h17 hJ17 k17  => ?_)
          refine ev_iconst (v := 1) rfl rfl (by decide) ?_
          exact ev_iret rfl rfl rfl ⟨⟨_, rfl, ((by decide : B 1 1 1).mono (by decide) (by decide))⟩, rfl, hJ17⟩
        · have b16 : B a2 (-2147483648) (-1) := R_ltX b12 (by decide : B 0 0 0) (Int32.not_le.mp c14) (by decide)
          refine ev_bipush (v := (-14)) rfl rfl (by decide) ?_
          exact ev_iret rfl rfl rfl ⟨⟨_, rfl, ((by decide : B (-14) (-14) (-14)).mono (by decide) (by decide))⟩, rfl, hJ0⟩
      · have b13 : B a2 61 2147483647 := R_ltY (by decide : B 60 60 60) (B.any a2) (Int32.not_le.mp c11) (by decide)
        refine ev_iconst (v := (-1)) rfl rfl (by decide) ?_
        exact ev_iret rfl rfl rfl ⟨⟨_, rfl, ((by decide : B (-1) (-1) (-1)).mono (by decide) (by decide))⟩, rfl, hJ0⟩

set_option maxRecDepth 100000 in
set_option maxHeartbeats 4000000 in
theorem w_X5_hasCell_55 (L : Nat) (b : Bool) (h : Hp) (hB : Bx h) (a0 : Int32) (p0 : B a0 0 3) (a1 : Int32) : EvP mi_X5_hasCell [.ref 55, .int a0, .int a1] (G0 L b) h (fun r : Int32 => B r 0 1 ∧ (¬ r = 0 → B a1 0 59)) := by
  refine EvM.of2 (lo := [some (.ref 55), some (.int a0), some (.int a1)]) pf_X5_hasCell ok_X5_hasCell rfl rfl ?_
  refine ev_iconst (v := 0) rfl rfl (by decide) ?_
  refine ev_iload_n rfl rfl rfl ?_
  refine ev_icmp_gt rfl rfl (fun c1 => ?_) (fun c1 => ?_)
  · have b2 : B a1 (-2147483648) (-1) := R_ltX (B.any a1) (by decide : B 0 0 0) c1 (by decide)
    refine ev_iconst (v := 0) rfl rfl (by decide) ?_
    exact ev_iret rfl rfl rfl ⟨⟨_, rfl, ⟨((by decide : B 0 0 0).mono (by decide) (by decide)), (fun e_ => absurd rfl e_)⟩⟩, rfl, rfl⟩
  · have b3 : B a1 0 2147483647 := R_leY (by decide : B 0 0 0) (B.any a1) (Int32.not_lt.mp c1) (by decide)
    refine ev_iload_n rfl rfl rfl ?_
    refine ev_aload_n rfl rfl rfl ?_
    refine ev_getR (y := 62) rfl rfl fl_X5_18 rfl rfl rfl rfl ?_
    refine ev_iload_n rfl rfl rfl ?_
    refine ev_ialW (n := 4) (l := (-1)) (u := 60) hB p0 (by decide) (by decide) (fun _ => rfl) rfl rfl rfl (fun v4 b4 e4 => ?_)
    refine ev_icmp_ge rfl rfl (fun c5 => ?_) (fun c5 => ?_)
    · refine ev_iconst (v := 0) rfl rfl (by decide) ?_
      exact ev_iret rfl rfl rfl ⟨⟨_, rfl, ⟨((by decide : B 0 0 0).mono (by decide) (by decide)), (fun e_ => absurd rfl e_)⟩⟩, rfl, rfl⟩
    · have b6 : B a1 0 59 := R_ltX b3 b4 (Int32.not_le.mp c5) (by decide)
      have b7 : B v4 1 60 := R_ltY b3 b4 (Int32.not_le.mp c5) (by decide)
      refine ev_iconst (v := 1) rfl rfl (by decide) ?_
      refine ev_goto rfl rfl ?_
      exact ev_iret rfl rfl rfl ⟨⟨_, rfl, ⟨((by decide : B 1 1 1).mono (by decide) (by decide)), (fun _ => b6)⟩⟩, rfl, rfl⟩

set_option maxRecDepth 100000 in
set_option maxHeartbeats 4000000 in
theorem w_X5_put_55 (L : Nat) (b : Bool) (h : Hp) (hB : Bx h) (a0 : Int32) (p0 : B a0 0 3) (a1 : Int32) (p1 : B a1 0 59) (a2 : Int32) : EvN mi_X5_put [.ref 55, .int a0, .int a1, .int a2] (G0 L b) h [(57, 999), (58, 999), (59, 999), (60, 999)] := by
  refine EvM.of2 (lo := [some (.ref 55), some (.int a0), some (.int a1), some (.int a2)]) pf_X5_put ok_X5_put rfl rfl ?_
  have hJ0 : JW [(57, 999), (58, 999), (59, 999), (60, 999)] h h := JW.refl hB
  refine ev_aload_n rfl rfl rfl ?_
  refine ev_getR (y := 61) rfl rfl fl_X5_14 rfl rfl rfl rfl ?_
  refine ev_iload_n rfl rfl rfl ?_
  refine ev_ialW (n := 4) (l := (-2147483648)) (u := 2147483647) hJ0.1 p0 (by decide) (by decide) (fun _ => rfl) rfl rfl rfl (fun v1 b1 e1 => ?_)
  refine ev_if_ne rfl rfl (fun c2 => ?_) (fun c2 => ?_)
  · refine ev_aload_n rfl rfl rfl ?_
    refine ev_getR (y := 56) rfl rfl fl_X5_11 rfl rfl rfl rfl ?_
    refine ev_iload_n rfl rfl rfl ?_
    rcases B.c4 p0 with rfl | rfl | rfl | rfl
    · refine ev_aald (y := 57) (j := 0) rfl rfl rfl rfl (by unfold vp_in; decide) (by decide) rfl ?_
      refine ev_iload_n rfl rfl rfl ?_
      refine ev_aload_n rfl rfl rfl ?_
      refine ev_getR (y := 61) rfl rfl fl_X5_14 rfl rfl rfl rfl ?_
      refine ev_iload_n rfl rfl rfl ?_
      refine ev_ialK (j := 0) (n := 4) (l := (-2147483648)) (u := 2147483647) hJ0.1 (by decide : B 0 0 0) (by decide) (by decide) (by decide) rfl rfl rfl rfl (fun v4 b4 e4 => ?_)
      refine ev_iconst (v := 1) rfl rfl (by decide) ?_
      refine ev_icmp_ne rfl rfl (fun c5 => ?_) (fun c5 => ?_)
      · refine ev_iload_n rfl rfl rfl ?_
        refine ev_iasW (n := 60) (l := (-2147483648)) (u := 2147483647) hJ0 p1 (by decide) (by decide) (fun _ => rfl) (B.any a2) (by decide) (by decide) (fun _ => rfl) rfl rfl rfl rfl (fun h7 hJ7 k7 => ?_)
        exact ev_vret rfl rfl trivial ⟨rfl, rfl, hJ7⟩
      · have b6 : B v4 1 1 := R_eqX (B.any v4) (by decide : B 1 1 1) c5
        refine ev_iload_n rfl rfl rfl ?_
        refine ev_i2sA rfl rfl (fun v8 => ?_)
        refine ev_goto rfl rfl ?_
        refine ev_iasW (n := 60) (l := (-2147483648)) (u := 2147483647) hJ0 p1 (by decide) (by decide) (fun _ => rfl) (B.any v8) (by decide) (by decide) (fun _ => rfl) rfl rfl rfl rfl (fun h9 hJ9 k9 => ?_)
        exact ev_vret rfl rfl trivial ⟨rfl, rfl, hJ9⟩
    · refine ev_aald (y := 58) (j := 1) rfl rfl rfl rfl (by unfold vp_in; decide) (by decide) rfl ?_
      refine ev_iload_n rfl rfl rfl ?_
      refine ev_aload_n rfl rfl rfl ?_
      refine ev_getR (y := 61) rfl rfl fl_X5_14 rfl rfl rfl rfl ?_
      refine ev_iload_n rfl rfl rfl ?_
      refine ev_ialK (j := 1) (n := 4) (l := (-2147483648)) (u := 2147483647) hJ0.1 (by decide : B 1 1 1) (by decide) (by decide) (by decide) rfl rfl rfl rfl (fun v10 b10 e10 => ?_)
      refine ev_iconst (v := 1) rfl rfl (by decide) ?_
      refine ev_icmp_ne rfl rfl (fun c11 => ?_) (fun c11 => ?_)
      · refine ev_iload_n rfl rfl rfl ?_
        refine ev_iasW (n := 60) (l := (-2147483648)) (u := 2147483647) hJ0 p1 (by decide) (by decide) (fun _ => rfl) (B.any a2) (by decide) (by decide) (fun _ => rfl) rfl rfl rfl rfl (fun h13 hJ13 k13 => ?_)
        exact ev_vret rfl rfl trivial ⟨rfl, rfl, hJ13⟩
      · have b12 : B v10 1 1 := R_eqX (B.any v10) (by decide : B 1 1 1) c11
        refine ev_iload_n rfl rfl rfl ?_
        refine ev_i2sA rfl rfl (fun v14 => ?_)
        refine ev_goto rfl rfl ?_
        refine ev_iasW (n := 60) (l := (-2147483648)) (u := 2147483647) hJ0 p1 (by decide) (by decide) (fun _ => rfl) (B.any v14) (by decide) (by decide) (fun _ => rfl) rfl rfl rfl rfl (fun h15 hJ15 k15 => ?_)
        exact ev_vret rfl rfl trivial ⟨rfl, rfl, hJ15⟩
    · refine ev_aald (y := 59) (j := 2) rfl rfl rfl rfl (by unfold vp_in; decide) (by decide) rfl ?_
      refine ev_iload_n rfl rfl rfl ?_
      refine ev_aload_n rfl rfl rfl ?_
      refine ev_getR (y := 61) rfl rfl fl_X5_14 rfl rfl rfl rfl ?_
      refine ev_iload_n rfl rfl rfl ?_
      refine ev_ialK (j := 2) (n := 4) (l := (-2147483648)) (u := 2147483647) hJ0.1 (by decide : B 2 2 2) (by decide) (by decide) (by decide) rfl rfl rfl rfl (fun v16 b16 e16 => ?_)
      refine ev_iconst (v := 1) rfl rfl (by decide) ?_
      refine ev_icmp_ne rfl rfl (fun c17 => ?_) (fun c17 => ?_)
      · refine ev_iload_n rfl rfl rfl ?_
        refine ev_iasW (n := 60) (l := (-2147483648)) (u := 2147483647) hJ0 p1 (by decide) (by decide) (fun _ => rfl) (B.any a2) (by decide) (by decide) (fun _ => rfl) rfl rfl rfl rfl (fun h19 hJ19 k19 => ?_)
        exact ev_vret rfl rfl trivial ⟨rfl, rfl, hJ19⟩
      · have b18 : B v16 1 1 := R_eqX (B.any v16) (by decide : B 1 1 1) c17
        refine ev_iload_n rfl rfl rfl ?_
        refine ev_i2sA rfl rfl (fun v20 => ?_)
        refine ev_goto rfl rfl ?_
        refine ev_iasW (n := 60) (l := (-2147483648)) (u := 2147483647) hJ0 p1 (by decide) (by decide) (fun _ => rfl) (B.any v20) (by decide) (by decide) (fun _ => rfl) rfl rfl rfl rfl (fun h21 hJ21 k21 => ?_)
        exact ev_vret rfl rfl trivial ⟨rfl, rfl, hJ21⟩
    · refine ev_aald (y := 60) (j := 3) rfl rfl rfl rfl (by unfold vp_in; decide) (by decide) rfl ?_
      refine ev_iload_n rfl rfl rfl ?_
      refine ev_aload_n rfl rfl rfl ?_
      refine ev_getR (y := 61) rfl rfl fl_X5_14 rfl rfl rfl rfl ?_
      refine ev_iload_n rfl rfl rfl ?_
      refine ev_ialK (j := 3) (n := 4) (l := (-2147483648)) (u := 2147483647) hJ0.1 (by decide : B 3 3 3) (by decide) (by decide) (by decide) rfl rfl rfl rfl (fun v22 b22 e22 => ?_)
      refine ev_iconst (v := 1) rfl rfl (by decide) ?_
      refine ev_icmp_ne rfl rfl (fun c23 => ?_) (fun c23 => ?_)
      · refine ev_iload_n rfl rfl rfl ?_
        refine ev_iasW (n := 60) (l := (-2147483648)) (u := 2147483647) hJ0 p1 (by decide) (by decide) (fun _ => rfl) (B.any a2) (by decide) (by decide) (fun _ => rfl) rfl rfl rfl rfl (fun h25 hJ25 k25 => ?_)
        exact ev_vret rfl rfl trivial ⟨rfl, rfl, hJ25⟩
      · have b24 : B v22 1 1 := R_eqX (B.any v22) (by decide : B 1 1 1) c23
        refine ev_iload_n rfl rfl rfl ?_
        refine ev_i2sA rfl rfl (fun v26 => ?_)
        refine ev_goto rfl rfl ?_
        refine ev_iasW (n := 60) (l := (-2147483648)) (u := 2147483647) hJ0 p1 (by decide) (by decide) (fun _ => rfl) (B.any v26) (by decide) (by decide) (fun _ => rfl) rfl rfl rfl rfl (fun h27 hJ27 k27 => ?_)
        exact ev_vret rfl rfl trivial ⟨rfl, rfl, hJ27⟩
  · have b3 : B v1 0 0 := R_eqX (B.any v1) (by decide : B 0 0 0) c2
    refine ev_aload_n rfl rfl rfl ?_
    refine ev_getR (y := 56) rfl rfl fl_X5_11 rfl rfl rfl rfl ?_
    refine ev_iload_n rfl rfl rfl ?_
    rcases B.c4 p0 with rfl | rfl | rfl | rfl
    · refine ev_aald (y := 57) (j := 0) rfl rfl rfl rfl (by unfold vp_in; decide) (by decide) rfl ?_
      refine ev_iload_n rfl rfl rfl ?_
      refine ev_iload_n rfl rfl rfl ?_
      refine ev_i2bA rfl rfl (fun v28 => ?_)
      refine ev_iasW (n := 60) (l := (-2147483648)) (u := 2147483647) hJ0 p1 (by decide) (by decide) (fun _ => rfl) (B.any v28) (by decide) (by decide) (fun _ => rfl) rfl rfl rfl rfl (fun h29 hJ29 k29 => ?_)
      refine ev_goto rfl rfl ?_
      exact ev_vret rfl rfl trivial ⟨rfl, rfl, hJ29⟩
    · refine ev_aald (y := 58) (j := 1) rfl rfl rfl rfl (by unfold vp_in; decide) (by decide) rfl ?_
      refine ev_iload_n rfl rfl rfl ?_
      refine ev_iload_n rfl rfl rfl ?_
      refine ev_i2bA rfl rfl (fun v30 => ?_)
      refine ev_iasW (n := 60) (l := (-2147483648)) (u := 2147483647) hJ0 p1 (by decide) (by decide) (fun _ => rfl) (B.any v30) (by decide) (by decide) (fun _ => rfl) rfl rfl rfl rfl (fun h31 hJ31 k31 => ?_)
      refine ev_goto rfl rfl ?_
      exact ev_vret rfl rfl trivial ⟨rfl, rfl, hJ31⟩
    · refine ev_aald (y := 59) (j := 2) rfl rfl rfl rfl (by unfold vp_in; decide) (by decide) rfl ?_
      refine ev_iload_n rfl rfl rfl ?_
      refine ev_iload_n rfl rfl rfl ?_
      refine ev_i2bA rfl rfl (fun v32 => ?_)
      refine ev_iasW (n := 60) (l := (-2147483648)) (u := 2147483647) hJ0 p1 (by decide) (by decide) (fun _ => rfl) (B.any v32) (by decide) (by decide) (fun _ => rfl) rfl rfl rfl rfl (fun h33 hJ33 k33 => ?_)
      refine ev_goto rfl rfl ?_
      exact ev_vret rfl rfl trivial ⟨rfl, rfl, hJ33⟩
    · refine ev_aald (y := 60) (j := 3) rfl rfl rfl rfl (by unfold vp_in; decide) (by decide) rfl ?_
      refine ev_iload_n rfl rfl rfl ?_
      refine ev_iload_n rfl rfl rfl ?_
      refine ev_i2bA rfl rfl (fun v34 => ?_)
      refine ev_iasW (n := 60) (l := (-2147483648)) (u := 2147483647) hJ0 p1 (by decide) (by decide) (fun _ => rfl) (B.any v34) (by decide) (by decide) (fun _ => rfl) rfl rfl rfl rfl (fun h35 hJ35 k35 => ?_)
      refine ev_goto rfl rfl ?_
      exact ev_vret rfl rfl trivial ⟨rfl, rfl, hJ35⟩

set_option maxRecDepth 100000 in
set_option maxHeartbeats 4000000 in
theorem w_X9_lay_1 (L : Nat) (b : Bool) (h : Hp) (hB : Bx h) (a0 : Int32) (a1 : Int32) (a2 : Int32) : EvJ mi_X9_lay [.ref 1, .int a0, .int a1, .int a2] (G0 L b) h (fun r : Int32 => B r (-12) 1) [(57, 999), (58, 999), (59, 999), (60, 999)] := by
  refine EvM.of2 (lo := [some (.ref 1), some (.int a0), some (.int a1), some (.int a2)]) pf_X9_lay ok_X9_lay rfl rfl ?_
  have hJ0 : JW [(57, 999), (58, 999), (59, 999), (60, 999)] h h := JW.refl hB
  refine ev_aload_n rfl rfl rfl ?_
  refine ev_getR (y := 55) rfl rfl fl_X9_71 rfl rfl rfl rfl ?_
  refine ev_iload_n rfl rfl rfl ?_
  refine ev_V1P rfl rfl lk_X9_255 vt_X5_has rfl rfl rfl rfl rfl (w_X5_has_55 L b h hJ0.1 a0) (fun r1 q1 => ?_)
  obtain ⟨b1, p1_0⟩ := q1
  refine ev_if_ne rfl rfl (fun c2 => ?_) (fun c2 => ?_)
  · have b3 : B r1 1 1 := R_neL b1 (by decide : B 0 0 0) c2 (by decide)
    have b4 : B a0 0 3 := p1_0 c2
    refine ev_aload_n rfl rfl rfl ?_
    refine ev_getR (y := 55) rfl rfl fl_X9_71 rfl rfl rfl rfl ?_
    refine ev_iload_n rfl rfl rfl ?_
    refine ev_V1P rfl rfl lk_X9_322 vt_X5_isNothing rfl rfl rfl rfl rfl (w_X5_isNothing_55 L b h hJ0.1 a0 b4) (fun r6 q6 => ?_)
    refine ev_if_eq rfl rfl (fun c7 => ?_) (fun c7 => ?_)
    · have b8 : B r6 0 0 := R_eqX q6 (by decide : B 0 0 0) c7
      refine ev_aload_n rfl rfl rfl ?_
      refine ev_getR (y := 55) rfl rfl fl_X9_71 rfl rfl rfl rfl ?_
      refine ev_iload_n rfl rfl rfl ?_
      refine ev_iload_n rfl rfl rfl ?_
      refine ev_V2P rfl rfl lk_X9_325 vt_X5_hasCell rfl rfl rfl rfl rfl (w_X5_hasCell_55 L b h hJ0.1 a0 b4 a1) (fun r10 q10 => ?_)
      obtain ⟨b10, p10_0⟩ := q10
      refine ev_if_ne rfl rfl (fun c11 => ?_) (fun c11 => ?_)
      · have b12 : B r10 1 1 := R_neL b10 (by decide : B 0 0 0) c11 (by decide)
        have b13 : B a1 0 59 := p10_0 c11
        refine ev_aload_n rfl rfl rfl ?_
        refine ev_getR (y := 55) rfl rfl fl_X9_71 rfl rfl rfl rfl ?_
        refine ev_iload_n rfl rfl rfl ?_
        refine ev_iload_n rfl rfl rfl ?_
        refine ev_iload_n rfl rfl rfl ?_
        refine ev_V3N hJ0 rfl rfl rfl lk_X9_329 vt_X5_put rfl rfl rfl rfl rfl (w_X5_put_55 L b h hJ0.1 a0 b4 a1 b13 a2) (fun h15 hJ15 k15  => ?_)
        refine ev_iconst (v := 1) rfl rfl (by decide) ?_
        exact ev_iret rfl rfl rfl ⟨⟨_, rfl, ((by decide : B 1 1 1).mono (by decide) (by decide))⟩, rfl, hJ15⟩
      · have b14 : B r10 0 0 := R_eqX b10 (by decide : B 0 0 0) c11
        refine ev_bipush (v := (-12)) rfl rfl (by decide) ?_
        exact ev_iret rfl rfl rfl ⟨⟨_, rfl, ((by decide : B (-12) (-12) (-12)).mono (by decide) (by decide))⟩, rfl, hJ0⟩
    · have b9 : B r6 1 1 := R_neL q6 (by decide : B 0 0 0) c7 (by decide)
      refine ev_bipush (v := (-11)) rfl rfl (by decide) ?_
      exact ev_iret rfl rfl rfl ⟨⟨_, rfl, ((by decide : B (-11) (-11) (-11)).mono (by decide) (by decide))⟩, rfl, hJ0⟩
  · have b5 : B r1 0 0 := R_eqX b1 (by decide : B 0 0 0) c2
    refine ev_iconst (v := (-1)) rfl rfl (by decide) ?_
    exact ev_iret rfl rfl rfl ⟨⟨_, rfl, ((by decide : B (-1) (-1) (-1)).mono (by decide) (by decide))⟩, rfl, hJ0⟩

set_option maxRecDepth 100000 in
set_option maxHeartbeats 4000000 in
theorem w_X9_fault_1 (L : Nat) (b : Bool) (h : Hp) (hB : Bx h)  : EvP mi_X9_fault [.ref 1] (G0 L b) h (fun r : Int32 => B r (-2147483648) 2147483647) := by
  refine EvM.of2 (lo := [some (.ref 1)]) pf_X9_fault ok_X9_fault rfl rfl ?_
  refine ev_aload_n rfl rfl rfl ?_
  refine ev_getR (y := 23) rfl rfl fl_X9_36 rfl rfl rfl rfl ?_
  refine ev_getW (l := (-2147483648)) (u := 2147483647) hB rfl rfl rfl fl_X9_180 rfl rfl rfl (fun v1 b1 e1 => ?_)
  exact ev_iret rfl rfl rfl ⟨⟨_, rfl, (B.any v1)⟩, rfl, rfl⟩

