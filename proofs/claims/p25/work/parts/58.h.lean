set_option maxRecDepth 100000 in
set_option maxHeartbeats 4000000 in
theorem c_rngE (G : Geo) (h : Hp) (l a b : Nat) (hab : a ≤ b) (hbl : b ≤ l) (hl : l < 2 ^ 31) : EvU mi_J7_rangeCheck_23922 [.int (nI l), .int (nI a), .int (nI b)] G h (h) := by
  refine EvU.of (lo := [some (.int (nI l)), some (.int (nI a)), some (.int (nI b))]) pf_J7_rangeCheck_23922 ok_J7_rangeCheck_23922 rfl rfl ?_
  refine ev_iload_n rfl rfl rfl ?_
  refine ev_iload_n rfl rfl rfl ?_
  refine ev_icmp_le rfl rfl (fun c_2 => ?_) (fun z_ => absurd ((nI_le2 (by omega) (by omega)).mpr hab) z_)
  refine ev_iload_n rfl rfl rfl ?_
  refine ev_if_ge rfl rfl (fun c_47 => ?_) (fun z_ => absurd (Int32.not_lt.mp (nI_nng (by omega))) z_)
  refine ev_iload_n rfl rfl rfl ?_
  refine ev_iload_n rfl rfl rfl ?_
  refine ev_icmp_le rfl rfl (fun c_61 => ?_) (fun z_ => absurd ((nI_le2 (by omega) (by omega)).mpr hbl) z_)
  exact ev_vret rfl rfl trivial (⟨rfl, rfl, rfl⟩)

set_option maxRecDepth 100000 in
set_option maxHeartbeats 4000000 in
theorem l_fll (L : Nat) (h : Hp) (to c : Nat) (hto : to + c ≤ 45225) : ∀ t i : Nat, i + t = c → EvQ mi_J7_fill_fda19 10 [some (.ref 95), some (.int (nI to)), some (.int (nI (to + c))), some (.int 0), some (.int (nI (to + i)))] [] (G0 L true) (k_zf h to i) 0 0 (fun v G' h' => v = none ∧ G' = G0 L true ∧ h' = k_zf h to c) := by
  intro t
  induction t with
  | zero =>
    intro i hi
    have hi2 : i = c := by omega
    subst hi2
    refine ev_iload rfl rfl rfl ?_
    refine ev_iload_n rfl rfl rfl ?_
    refine ev_icmp_ge rfl rfl (fun c_13 => ?_) (fun z_ => absurd (Int32.le_refl _) z_)
    exact ev_vret rfl rfl trivial (⟨rfl, rfl, rfl⟩)
  | succ t ih =>
    intro i hi
    refine ev_iload rfl rfl rfl ?_
    refine ev_iload_n rfl rfl rfl ?_
    refine ev_icmp_ge rfl rfl (fun z_ => absurd z_ (nI_ge (by omega) (by omega))) (fun c_13 => ?_)
    refine ev_aload_n rfl rfl rfl ?_
    refine ev_iload rfl rfl rfl ?_
    refine ev_iload_n rfl rfl rfl ?_
    refine ev_iast rfl rfl rfl rfl (vp_in_nI (by omega) (by decide)) (nI_clamp (by omega)) ?_
    refine ev_iinc (y := 1) rfl rfl rfl (by decide) rfl rfl ?_
    dsimp only [List.set]
    refine ev_goto rfl rfl ?_
    refine EvQ.hp (k_zf h to (i + 1)) (k_zf_s h to i) ?_
    rw [nI_1, Nat.add_assoc]
    exact ih (i + 1) (by omega)

set_option maxRecDepth 100000 in
set_option maxHeartbeats 4000000 in
theorem c_fll (L : Nat) (h : Hp) (to c : Nat) (hto : to + c ≤ 45225) : EvU mi_J7_fill_fda19 [.ref 95, .int (nI to), .int (nI (to + c)), .int 0] (G0 L true) h (k_zf h to c) := by
  refine EvU.of (lo := [some (.ref 95), some (.int (nI to)), some (.int (nI (to + c))), some (.int 0), none]) pf_J7_fill_fda19 ok_J7_fill_fda19 rfl rfl ?_
  refine ev_aload_n rfl rfl rfl ?_
  refine ev_alen rfl rfl rfl ?_
  refine ev_iload_n rfl rfl rfl ?_
  refine ev_iload_n rfl rfl rfl ?_
  refine ev_S3U rfl rfl lk_J7_13 st_J7_rangeCheck_23922 rfl rfl (c_rngE _ h 45225 to (to + c) (by omega) hto (by decide)) ?_
  refine ev_iload_n rfl rfl rfl ?_
  refine ev_istore rfl rfl rfl rfl ?_
  dsimp only [List.set]
  refine EvQ.hp (k_zf h to 0) (k_zf_0 h to).symm ?_
  exact l_fll L h to c hto c 0 (by omega)

set_option maxRecDepth 100000 in
set_option maxHeartbeats 4000000 in
theorem l_sol (L : Nat) (h : Hp) (V : Nat) (hV : V ≤ 200) (eV : h 2 3 = nI V) (m : Nat) (hm0 : m ≤ 12) (hm : h 4 7 = nI m) (N : Nat → Nat → Nat) (hN : ∀ p y, nI (N p y) = z_min (h 2 3) (z_max 0 (nI p + 2 * h 2 2 - cD h m y))) (hNV : ∀ p y, N p y ≤ V) (R : Nat) (hR : R ≤ 8) (c : Nat → Nat) (M : Nat) (hM : M ≤ 24) (bc : ∀ i, i < M → c i < 4096) (pc : ∀ i, i < M → sbm (c i) 31 = 0) (e3 : h 37 3 = nI M) (e39 : ∀ i, i < M → h 39 i = nI (c i)) (d : Int32) (p0 : Nat) (hp0 : p0 ≤ V) (e20 : h 2 0 = nI p0) (A : Nat → Nat → Nat) (hA : ∀ i p, A i p = c i &&& cR h m d p) : ∀ (t : Nat) (F : Hp), t ≤ M → JW [(37, 4), (37, 7), (37, 8), (37, 11), (37, 12), (37, 13), (38, 999), (40, 999), (41, 999), (42, 999), (43, 999), (95, 999)] h F → F 37 4 = nI (R + 1) → F 37 8 = cD h m 0 → (∀ p, p ≤ 200 → F 38 p = nI (cR h m d p)) → (∀ i, t ≤ i → i ≤ M → ∀ r, r ≤ R → ∀ q, q ≤ V → F 95 (((i * 201 + q) * 9) + r) = nI (q_TT 9 N A (M - i) i r q)) → EvQ mi_X4_solve 76 [some (.ref 37), some (.ref 2), some (.ref 4), some (.int d), some (.int (nI R)), some (.int (nI t - 1))] [] (G0 L true) F 0 0 (QK (fun z => z 37 11 = nI (q_fo 9 N A M R p0 M).2.2 ∧ z 37 12 = nI (R - (q_fo 9 N A M R p0 M).1) ∧ z 37 13 = nI (q_fo 9 N A M R p0 M).2.1 ∧ ∀ j, j < M → z 42 j = nI (q_fsd 9 N A M R p0 j) ∧ z 43 j = nI (q_fah 9 N A M R p0 j)) [(37, 4), (37, 7), (37, 8), (37, 11), (37, 12), (37, 13), (38, 999), (40, 999), (41, 999), (42, 999), (43, 999), (95, 999)] (G0 L true) h) := by
  intro t
  induction t with
  | zero =>
    intro F ht hF f4 f8 f38 er
    have f20 : F 2 0 = nI p0 := (hF.2 2 0 rfl).trans e20
    have f22 : F 2 2 = h 2 2 := hF.2 2 2 rfl
    have f23 : F 2 3 = h 2 3 := hF.2 2 3 rfl
    have f47 : F 4 7 = nI m := (hF.2 4 7 rfl).trans hm
    have dF : cD F m = cD h m := funext (fun y => by
      unfold cD
      rw [hF.2 4 6 rfl]
      exact s_drawn_cg (fun k => hF.2 6 k rfl) _ _ _)
    refine ev_iload rfl rfl rfl ?_
    refine ev_if_lt rfl rfl (fun c_78 => ?_) (fun z_ => absurd (show nI 0 - 1 < 0 by decide) z_)
    refine ev_aload_n rfl rfl rfl ?_
    refine ev_aload_n rfl rfl rfl ?_
    refine ev_aload_n rfl rfl rfl ?_
    refine ev_iload rfl rfl rfl ?_
    refine ev_V3K hF rfl rfl rfl lk_X4_103 vt_X4_follow rfl rfl rfl rfl rfl (c_follow L F hF.1 V hV (f23.trans eV) m hm0 f47 N (by intro p y; rw [f23, f22, dF]; exact hN p y) hNV R hR c M hM bc pc (hF.2 37 3 rfl |>.trans e3) (fun i hi => (hF.2 39 i rfl).trans (e39 i hi)) (cR h m d) A hA f38 (by rw [dF]; exact f8) (fun i hi => er i (Nat.zero_le _) hi) p0 hp0 f20) (fun z j1 k1 q1 => ?_)
    exact ev_vret rfl rfl trivial (⟨rfl, rfl, j1, q1⟩)
  | succ t ih =>
    intro F ht hF f4 f8 f38 er
    rw [nI_s1]
    have f20 : F 2 0 = nI p0 := (hF.2 2 0 rfl).trans e20
    have f22 : F 2 2 = h 2 2 := hF.2 2 2 rfl
    have f23 : F 2 3 = h 2 3 := hF.2 2 3 rfl
    have f47 : F 4 7 = nI m := (hF.2 4 7 rfl).trans hm
    have dF : cD F m = cD h m := funext (fun y => by
      unfold cD
      rw [hF.2 4 6 rfl]
      exact s_drawn_cg (fun k => hF.2 6 k rfl) _ _ _)
    have f39 : F 39 t = nI (c t) := (hF.2 39 t rfl).trans (e39 t (by omega))
    obtain ⟨n, n31, n0, n1⟩ := sbm_first 31 (pc t (by omega))
    have bT : ∀ r q, q_TT 9 N A (M - (t + 1)) (t + 1) r q ≤ 3000 := fun r q => by have := q_TT_le (K := 9) (N := N) (A := A) (M - (t + 1)) (t + 1) r q; omega
    have hX1 : JW [(37, 4), (37, 7), (37, 8), (37, 11), (37, 12), (37, 13), (38, 999), (40, 999), (41, 999), (42, 999), (43, 999), (95, 999)] h (k_lo F m (c t) (n + 1)) := hF.lo rfl (fun _ => rfl) (fun _ => rfl) m (c t) (by omega)
    have hX1l : ∀ i j, i ≠ 37 ∧ i ≠ 40 ∧ i ≠ 41 → (k_lo F m (c t) (n + 1)) i j = F i j := fun i j q => k_lo_ne q.1 q.2.1 q.2.2
    have g22 : (k_lo F m (c t) (n + 1)) 2 2 = h 2 2 := hX1.2 2 2 rfl
    have g23 : (k_lo F m (c t) (n + 1)) 2 3 = h 2 3 := hX1.2 2 3 rfl
    have g4 : (k_lo F m (c t) (n + 1)) 37 4 = nI (R + 1) := (k_lo_37 (by decide)).trans f4
    have g8 : (k_lo F m (c t) (n + 1)) 37 8 = cD h m 0 := (k_lo_37 (by decide)).trans f8
    have g38 : ∀ p, p ≤ 200 → (k_lo F m (c t) (n + 1)) 38 p = nI (cR h m d p) := fun p hp => (hX1l 38 p (by decide)).trans (f38 p hp)
    refine ev_iload rfl rfl rfl ?_
    refine ev_if_lt rfl rfl (fun z_ => absurd z_ (nI_nng (by omega))) (fun c_78 => ?_)
    refine ev_aload_n rfl rfl rfl ?_
    refine ev_aload_n rfl rfl rfl ?_
    refine ev_aload_n rfl rfl rfl ?_
    refine ev_getR rfl rfl fl_X4_18 rfl rfl rfl rfl ?_
    refine ev_iload rfl rfl rfl ?_
    refine ev_iald rfl rfl rfl (vp_in_nI (by omega) (by decide)) (nI_clamp (by omega)) ?_
    try simp only [f39]
    refine ev_V2U rfl rfl lk_X4_93 vt_X4_listOptions rfl rfl rfl rfl rfl (c_listOptions L true F m hm0 f47 (c t) (bc t (by omega)) n n0 n1 n31) ?_
    refine ev_aload_n rfl rfl rfl ?_
    refine ev_aload_n rfl rfl rfl ?_
    refine ev_iload rfl rfl rfl ?_
    refine ev_V2K hX1 rfl rfl rfl lk_X4_96 vt_X4_fillSounding rfl rfl rfl rfl rfl (c_fillS L (k_lo F m (c t) (n + 1)) hX1.1 V hV (g23.trans eV) (cD h m) N (by intro p y; rw [g23, g22]; exact hN p y) hNV R hR g4 n n31 (c t) (bc t (by omega)) n0 (k_lo_7 _ _ _ _) (fun k hk => k_lo_40 (by omega)) (fun k hk => by rw [k_lo_41 (by omega), dF]) (cR h m d) g38 t (by omega) (q_TT 9 N A (M - (t + 1)) (t + 1)) bT (fun r hr q hq => (hX1l 95 _ (by decide)).trans (er (t + 1) (Nat.le_refl _) (by omega) r hr q hq))) (fun F2 hF2 k2 q2 => ?_)
    refine ev_aload_n rfl rfl rfl ?_
    refine ev_aload_n rfl rfl rfl ?_
    refine ev_iload rfl rfl rfl ?_
    refine ev_V2K hF2 rfl rfl rfl lk_X4_100 vt_X4_fillResting rfl rfl rfl rfl rfl (c_fillR L F2 hF2.1 V hV ((hF2.2 2 3 rfl).trans eV) (cD h m) N (by intro p y; rw [hF2.2 2 3 rfl, hF2.2 2 2 rfl]; exact hN p y) hNV R hR ((k2.2 37 4 rfl).trans g4) ((k2.2 37 8 rfl).trans g8) (A t) t (by omega) (q_TT 9 N A (M - (t + 1)) (t + 1)) bT (fun p hp r hr => by rw [hA]; exact q2.1 p hp r hr)) (fun F3 hF3 k3 q3 => ?_)
    refine ev_iincL (y := -1) (v := nI t - 1) rfl rfl rfl (by decide) rfl rfl (nI_e1 t) ?_
    dsimp only [List.set]
    refine ev_goto rfl rfl ?_
    refine ih F3 (by omega) hF3 ((k3.2 37 4 rfl).trans ((k2.2 37 4 rfl).trans g4)) ((k3.2 37 8 rfl).trans ((k2.2 37 8 rfl).trans g8)) (fun p hp => (k3.2 38 p rfl).trans ((k2.2 38 p rfl).trans (g38 p hp))) (fun i hi1 hi2 r hr q hq => ?_)
    by_cases e : i = t
    · subst e
      rw [q3.1 q hq r hr, show M - i = (M - (i + 1)) + 1 by omega]
      rfl
    · rw [q3.2 _ (by omega), q2.2 _ (by omega), hX1l 95 _ (by decide)]
      exact er i (by omega) hi2 r hr q hq

set_option maxRecDepth 100000 in
set_option maxHeartbeats 4000000 in
theorem x_sol15 (L : Nat) (h : Hp) (hB : Bx h) (V : Nat) (hV : V ≤ 200) (eV : h 2 3 = nI V) (m : Nat) (hm0 : m ≤ 12) (hm : h 4 7 = nI m) (N : Nat → Nat → Nat) (hN : ∀ p y, nI (N p y) = z_min (h 2 3) (z_max 0 (nI p + 2 * h 2 2 - cD h m y))) (hNV : ∀ p y, N p y ≤ V) (R : Nat) (hR : R ≤ 8) (c : Nat → Nat) (M : Nat) (hM : M ≤ 24) (bc : ∀ i, i < M → c i < 4096) (pc : ∀ i, i < M → sbm (c i) 31 = 0) (e3 : h 37 3 = nI M) (e39 : ∀ i, i < M → h 39 i = nI (c i)) (d : Int32) (p0 : Nat) (hp0 : p0 ≤ V) (e20 : h 2 0 = nI p0) (A : Nat → Nat → Nat) (hA : ∀ i p, A i p = c i &&& cR h m d p)  : EvQ mi_X4_solve 15 [some (.ref 37), some (.ref 2), some (.ref 4), some (.int d), some (.int (nI R)), none] [] (G0 L true) h 0 0 (QK (fun z => z 37 11 = nI (q_fo 9 N A M R p0 M).2.2 ∧ z 37 12 = nI (R - (q_fo 9 N A M R p0 M).1) ∧ z 37 13 = nI (q_fo 9 N A M R p0 M).2.1 ∧ ∀ j, j < M → z 42 j = nI (q_fsd 9 N A M R p0 j) ∧ z 43 j = nI (q_fah 9 N A M R p0 j)) [(37, 4), (37, 7), (37, 8), (37, 11), (37, 12), (37, 13), (38, 999), (40, 999), (41, 999), (42, 999), (43, 999), (95, 999)] (G0 L true) h) := by
  have hJ3 : JW [(37, 4), (37, 7), (37, 8), (37, 11), (37, 12), (37, 13), (38, 999), (40, 999), (41, 999), (42, 999), (43, 999), (95, 999)] h (k_zf (k_nr (ev_set (ev_set h 37 4 (nI (R + 1))) 37 8 (cD h m 0)) m d 201) ((M * 201 + 0) * 9) 1809) := ((((JW.refl hB).set rfl (show B (nI (R + 1)) 0 9 from nI_B (by omega) (by omega))).set rfl (B.any _)).nr (fun _ => rfl) m d 201).zf (fun _ => rfl) _ _
  refine ev_aload_n rfl rfl rfl ?_
  refine ev_iload rfl rfl rfl ?_
  refine ev_iconst (v := 1) rfl rfl (by decide) ?_
  refine ev_iaddV (v := nI (R + 1)) (nI_1 R).symm rfl rfl ?_
  refine ev_putI rfl rfl fl_X4_25 rfl rfl rfl rfl rfl ?_
  refine ev_aload_n rfl rfl rfl ?_
  refine ev_aload_n rfl rfl rfl ?_
  refine ev_iconst (v := 0) rfl rfl (by decide) ?_
  refine ev_aload_n rfl rfl rfl ?_
  refine ev_getI rfl rfl fl_X4_71 rfl rfl rfl ?_
  try simp (disch := omega) only [ev_rd2, ev_rd3, k_nr_ne, k_zf_ne, e3]
  refine ev_V2D rfl rfl lk_X4_76 vt_X8_drawnBy rfl rfl rfl rfl rfl (EvD.to (c_drawnBy L true _ m hm0 ((ev_rd2 (by decide)).trans hm) 0 (h 4 6)) (show _ = cD h m 0 from s_drawn_cg (fun j => ev_rd2 (by decide)) _ _ _) rfl) ?_
  refine ev_putI rfl rfl fl_X4_37 rfl rfl rfl rfl rfl ?_
  refine ev_aload_n rfl rfl rfl ?_
  refine ev_aload_n rfl rfl rfl ?_
  refine ev_iload_n rfl rfl rfl ?_
  refine ev_V2U rfl rfl lk_X4_80 vt_X4_markNear rfl rfl rfl rfl rfl (c_markNear L true (ev_set (ev_set h 37 4 (nI (R + 1))) 37 8 (cD h m 0)) m hm0 ((ev_rd2 (by decide)).trans ((ev_rd2 (by decide)).trans hm)) d) ?_
  refine ev_aload_n rfl rfl rfl ?_
  refine ev_getR rfl rfl fl_X4_9 rfl rfl rfl rfl ?_
  refine ev_aload_n rfl rfl rfl ?_
  refine ev_getI rfl rfl fl_X4_21 rfl rfl rfl ?_
  try simp (disch := omega) only [ev_rd2, ev_rd3, k_nr_ne, k_zf_ne, e3]
  refine ev_iconst (v := 0) rfl rfl (by decide) ?_
  refine ev_S2D rfl rfl lk_X4_84 st_X4_cell rfl rfl (c_cellE _ _ M 0) ?_
  refine ev_aload_n rfl rfl rfl ?_
  refine ev_getI rfl rfl fl_X4_21 rfl rfl rfl ?_
  try simp (disch := omega) only [ev_rd2, ev_rd3, k_nr_ne, k_zf_ne, e3]
  refine ev_iconst (v := 1) rfl rfl (by decide) ?_
  refine ev_iaddV (v := nI (M + 1)) (nI_1 M).symm rfl rfl ?_
  refine ev_iconst (v := 0) rfl rfl (by decide) ?_
  refine ev_S2D rfl rfl lk_X4_84 st_X4_cell rfl rfl (EvD.to (c_cellE _ _ (M + 1) 0) (show _ = nI (((M * 201 + 0) * 9) + 1809) from congrArg nI (by omega)) rfl) ?_
  refine ev_iconst (v := 0) rfl rfl (by decide) ?_
  refine ev_S4U rfl rfl lk_X4_87 st_J7_fill_fda19 rfl rfl (c_fll L (k_nr (ev_set (ev_set h 37 4 (nI (R + 1))) 37 8 (cD h m 0)) m d 201) ((M * 201 + 0) * 9) 1809 (by omega)) ?_
  refine ev_aload_n rfl rfl rfl ?_
  refine ev_getI rfl rfl fl_X4_21 rfl rfl rfl ?_
  try simp (disch := omega) only [ev_rd2, ev_rd3, k_nr_ne, k_zf_ne, e3]
  refine ev_iconst (v := 1) rfl rfl (by decide) ?_
  refine ev_isub rfl rfl ?_
  refine ev_istore rfl rfl rfl rfl ?_
  dsimp only [List.set]
  refine l_sol L h V hV eV m hm0 hm N hN hNV R hR c M hM bc pc e3 e39 d p0 hp0 e20 A hA M (k_zf (k_nr (ev_set (ev_set h 37 4 (nI (R + 1))) 37 8 (cD h m 0)) m d 201) ((M * 201 + 0) * 9) 1809) (Nat.le_refl _) hJ3 (by rw [k_zf_ne (by decide), k_nr_ne (by decide), ev_rd3 (by decide), ev_rd1]) (by rw [k_zf_ne (by decide), k_nr_ne (by decide), ev_rd1]) (fun p hp => ?_) (fun i hi1 hi2 r hr q hq => ?_)
  · rw [k_zf_ne (by decide), show (k_nr (ev_set (ev_set h 37 4 (nI (R + 1))) 37 8 (cD h m 0)) m d 201) 38 p = nI (cR (ev_set (ev_set h 37 4 (nI (R + 1))) 37 8 (cD h m 0)) m d p) from if_pos ⟨rfl, by omega⟩]
    exact congrArg nI (q_nm_cg m (fun j _ => by
      unfold cP
      rw [o_off_cg (fun k => (ev_rd2 (by decide)).trans (ev_rd2 (by decide))) (fun k => (ev_rd2 (by decide)).trans (ev_rd2 (by decide))) (fun k => (ev_rd2 (by decide)).trans (ev_rd2 (by decide)))]))
  · have e : i = M := by omega
    subst e
    rw [Nat.sub_self, k_zf_in (by omega) (by omega)]
    rfl

set_option maxRecDepth 100000 in
set_option maxHeartbeats 4000000 in
theorem c_solveT (L : Nat) (h : Hp) (hB : Bx h) (V : Nat) (hV : V ≤ 200) (eV : h 2 3 = nI V) (m : Nat) (hm0 : m ≤ 12) (hm : h 4 7 = nI m) (N : Nat → Nat → Nat) (hN : ∀ p y, nI (N p y) = z_min (h 2 3) (z_max 0 (nI p + 2 * h 2 2 - cD h m y))) (hNV : ∀ p y, N p y ≤ V) (R : Nat) (hR : R ≤ 8) (c : Nat → Nat) (M : Nat) (hM : M ≤ 24) (bc : ∀ i, i < M → c i < 4096) (pc : ∀ i, i < M → sbm (c i) 31 = 0) (e3 : h 37 3 = nI M) (e39 : ∀ i, i < M → h 39 i = nI (c i)) (d : Int32) (p0 : Nat) (hp0 : p0 ≤ V) (e20 : h 2 0 = nI p0) (A : Nat → Nat → Nat) (hA : ∀ i p, A i p = c i &&& cR h m d p) : EvK mi_X4_solve [.ref 37, .ref 2, .ref 4, .int d, .int (nI R)] (G0 L true) h (fun z => z 37 11 = nI (q_fo 9 N A M R p0 M).2.2 ∧ z 37 12 = nI (R - (q_fo 9 N A M R p0 M).1) ∧ z 37 13 = nI (q_fo 9 N A M R p0 M).2.1 ∧ ∀ j, j < M → z 42 j = nI (q_fsd 9 N A M R p0 j) ∧ z 43 j = nI (q_fah 9 N A M R p0 j)) [(37, 4), (37, 7), (37, 8), (37, 11), (37, 12), (37, 13), (38, 999), (40, 999), (41, 999), (42, 999), (43, 999), (95, 999)] := by
  refine EvM.of2 (lo := [some (.ref 37), some (.ref 2), some (.ref 4), some (.int d), some (.int (nI R)), none]) pf_X4_solve ok_X4_solve rfl rfl ?_
  refine ev_aload_n rfl rfl rfl ?_
  refine ev_getR (y := 95) rfl rfl fl_X4_9 rfl rfl rfl rfl ?_
  refine ev_ifnn rfl rfl ?_
  exact x_sol15 L h hB V hV eV m hm0 hm N hN hNV R hR c M hM bc pc e3 e39 d p0 hp0 e20 A hA
set_option maxRecDepth 100000 in
set_option maxHeartbeats 4000000 in
theorem c_solveF (L : Nat) (h : Hp) (hB : Bx h) (hz : ∀ j, h 95 j = 0) (V : Nat) (hV : V ≤ 200) (eV : h 2 3 = nI V) (m : Nat) (hm0 : m ≤ 12) (hm : h 4 7 = nI m) (N : Nat → Nat → Nat) (hN : ∀ p y, nI (N p y) = z_min (h 2 3) (z_max 0 (nI p + 2 * h 2 2 - cD h m y))) (hNV : ∀ p y, N p y ≤ V) (R : Nat) (hR : R ≤ 8) (c : Nat → Nat) (M : Nat) (hM : M ≤ 24) (bc : ∀ i, i < M → c i < 4096) (pc : ∀ i, i < M → sbm (c i) 31 = 0) (e3 : h 37 3 = nI M) (e39 : ∀ i, i < M → h 39 i = nI (c i)) (d : Int32) (p0 : Nat) (hp0 : p0 ≤ V) (e20 : h 2 0 = nI p0) (A : Nat → Nat → Nat) (hA : ∀ i p, A i p = c i &&& cR h m d p) : EvM mi_X4_solve [.ref 37, .ref 2, .ref 4, .int d, .int (nI R)] (G0 L false) h 1 45225 (QK (fun z => z 37 11 = nI (q_fo 9 N A M R p0 M).2.2 ∧ z 37 12 = nI (R - (q_fo 9 N A M R p0 M).1) ∧ z 37 13 = nI (q_fo 9 N A M R p0 M).2.1 ∧ ∀ j, j < M → z 42 j = nI (q_fsd 9 N A M R p0 j) ∧ z 43 j = nI (q_fah 9 N A M R p0 j)) [(37, 4), (37, 7), (37, 8), (37, 11), (37, 12), (37, 13), (38, 999), (40, 999), (41, 999), (42, 999), (43, 999), (95, 999)] (G0 L true) h) := by
  refine EvM.of2 (lo := [some (.ref 37), some (.ref 2), some (.ref 4), some (.int d), some (.int (nI R)), none]) pf_X4_solve ok_X4_solve rfl rfl ?_
  refine ev_aload_n rfl rfl rfl ?_
  refine ev_getN rfl rfl fl_X4_9 rfl rfl rfl rfl ?_
  refine ev_ifnnN rfl rfl ?_
  refine ev_aload_n rfl rfl rfl ?_
  refine ev_ldc (v := 45225) rfl rfl kc_X4_70 ?_
  refine EvQ.cs (1 + 0) (45225 + 0) rfl rfl ?_
  refine ev_newa (N := 45225) (kc := 0) (ks := 0) rfl rfl rfl ac_int ⟨rfl, rfl⟩ (by decide) (by decide) (by decide) rfl (fun j => hz j) ?_
  refine ev_putR rfl rfl fl_X4_9 (Or.inl ⟨_, rfl, rfl⟩) rfl rfl rfl rfl ?_
  refine EvQ.geo (G0 L true) rfl ?_
  exact x_sol15 L h hB V hV eV m hm0 hm N hN hNV R hR c M hM bc pc e3 e39 d p0 hp0 e20 A hA
