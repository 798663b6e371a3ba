set_option maxRecDepth 100000 in
set_option maxHeartbeats 4000000 in
theorem c_worthOf (L : Nat) (h : Hp) (i p r o : Nat) (hi : i < 24) (hp : p < 201) (hr : r < 9) (ho : o < 32) (y : Nat) (hy : y < 4096) (e40 : h 40 o = nI y) (dd : Int32) (e41 : h 41 o = dd) (q : Nat) (hq : q ≤ 200) (eq : z_min (h 2 3) (z_max 0 (nI p + 2 * h 2 2 - dd)) = nI q) (tv : Nat) (et : h 95 ((((i + 1) * 201 + q) * 9) + r) = nI tv) : EvD mi_X4_worthOf [.ref 37, .ref 2, .int (nI i), .int (nI p), .int (nI r), .int (nI o)] (G0 L true) h (nI (9 * q_pop y + tv)) (h) := by
  refine EvD.of (lo := [some (.ref 37), some (.ref 2), some (.int (nI i)), some (.int (nI p)), some (.int (nI r)), some (.int (nI o))]) pf_X4_worthOf ok_X4_worthOf rfl rfl ?_
  refine ev_bipush (v := 9) rfl rfl (by decide) ?_
  refine ev_aload_n rfl rfl rfl ?_
  refine ev_getR rfl rfl fl_X4_28 rfl rfl rfl rfl ?_
  refine ev_iload rfl rfl rfl ?_
  refine ev_iald rfl rfl rfl (vp_in_nI (by omega) (by decide)) (nI_clamp (by omega)) ?_
  try simp only [e40, e41, et]
  refine ev_S1D rfl rfl lk_X4_123 st_J6_bitCount_0f7a4 rfl rfl (EvD.to (c_bitCount _ _ _) (bc_pop hy) rfl) ?_
  refine ev_imulV (v := nI (9 * q_pop y)) (nI_mul 9 _).symm rfl rfl ?_
  refine ev_aload_n rfl rfl rfl ?_
  refine ev_getR rfl rfl fl_X4_9 rfl rfl rfl rfl ?_
  refine ev_iload_n rfl rfl rfl ?_
  refine ev_iconst (v := 1) rfl rfl (by decide) ?_
  refine ev_iaddV (v := nI (i + 1)) (nI_1 i).symm rfl rfl ?_
  refine ev_aload_n rfl rfl rfl ?_
  refine ev_iload_n rfl rfl rfl ?_
  refine ev_aload_n rfl rfl rfl ?_
  refine ev_getR rfl rfl fl_X4_31 rfl rfl rfl rfl ?_
  refine ev_iload rfl rfl rfl ?_
  refine ev_iald rfl rfl rfl (vp_in_nI (by omega) (by decide)) (nI_clamp (by omega)) ?_
  try simp only [e40, e41, et]
  refine ev_V2D rfl rfl lk_X4_129 vt_X1_after rfl rfl rfl rfl rfl (EvD.to (c_after (G0 L true) h 2 rfl rfl (nI p) dd) eq rfl) ?_
  refine ev_S2D rfl rfl lk_X4_84 st_X4_cell rfl rfl (c_cellE _ _ (i + 1) q) ?_
  refine ev_iload rfl rfl rfl ?_
  refine ev_iaddV (v := nI ((((i + 1) * 201 + q) * 9) + r)) (nI_ad _ _).symm rfl rfl ?_
  refine ev_iald rfl rfl rfl (vp_in_nI (by omega) (by decide)) (nI_clamp (by omega)) ?_
  try simp only [e40, e41, et]
  refine ev_iaddV (v := nI (9 * q_pop y + tv)) (nI_ad _ _).symm rfl rfl ?_
  exact ev_iret rfl rfl rfl (⟨rfl, rfl, rfl⟩)

set_option maxRecDepth 100000 in
set_option maxHeartbeats 4000000 in
theorem l_raise (L : Nat) (h : Hp) (to fr lv : Nat) (hl : h 37 4 = nI lv) (l9 : lv ≤ 9) (ht : to + 9 ≤ 45225) (hf : fr + 9 ≤ 45225) (hd : to + lv ≤ fr) (g : Int32) : ∀ t i : Nat, i + t = lv → EvQ mi_X4_raise 3 [some (.ref 37), some (.int (nI to)), some (.int (nI fr)), some (.int g), some (.int (nI i)), none] [] (G0 L true) (k_rai h to fr g i) 0 0 (fun v G' h' => v = none ∧ G' = G0 L true ∧ h' = k_rai h to fr g lv) := by
  intro t
  induction t with
  | zero =>
    intro i hi
    have hi2 : i = lv := by omega
    subst hi2
    refine ev_iload rfl rfl rfl ?_
    refine ev_aload_n rfl rfl rfl ?_
    refine ev_getI rfl rfl fl_X4_25 rfl rfl rfl ?_
    try simp (disch := omega) only [k_rai_ne, k_rai_out]
    refine ev_icmp_ge rfl rfl (fun c_9 => ?_) (fun z_ => absurd (by rw [hl]; exact Int32.le_refl _) z_)
    exact ev_vret rfl rfl trivial (⟨rfl, rfl, rfl⟩)
  | succ t ih =>
    intro i hi
    refine ev_iload rfl rfl rfl ?_
    refine ev_aload_n rfl rfl rfl ?_
    refine ev_getI rfl rfl fl_X4_25 rfl rfl rfl ?_
    try simp (disch := omega) only [k_rai_ne, k_rai_out]
    refine ev_icmp_ge rfl rfl (fun z_ => absurd z_ (by rw [hl]; exact nI_ge (by omega) (by omega))) (fun c_9 => ?_)
    refine ev_iload_n rfl rfl rfl ?_
    refine ev_aload_n rfl rfl rfl ?_
    refine ev_getR rfl rfl fl_X4_9 rfl rfl rfl rfl ?_
    refine ev_iload_n rfl rfl rfl ?_
    refine ev_iload rfl rfl rfl ?_
    refine ev_iaddV (v := nI (fr + i)) (nI_ad _ _).symm rfl rfl ?_
    refine ev_iald rfl rfl rfl (vp_in_nI (by omega) (by decide)) (nI_clamp (by omega)) ?_
    try simp (disch := omega) only [k_rai_ne, k_rai_out]
    refine ev_iadd rfl rfl ?_
    refine ev_istore rfl rfl rfl rfl ?_
    dsimp only [List.set]
    refine ev_iload rfl rfl rfl ?_
    refine ev_aload_n rfl rfl rfl ?_
    refine ev_getR rfl rfl fl_X4_9 rfl rfl rfl rfl ?_
    refine ev_iload_n rfl rfl rfl ?_
    refine ev_iload rfl rfl rfl ?_
    refine ev_iaddV (v := nI (to + i)) (nI_ad _ _).symm rfl rfl ?_
    refine ev_iald rfl rfl rfl (vp_in_nI (by omega) (by decide)) (nI_clamp (by omega)) ?_
    try simp (disch := omega) only [k_rai_ne, k_rai_out]
    refine ev_icmp_le rfl rfl (fun c_36 => ?_) (fun c_36 => ?_)
    · refine ev_iinc (y := 1) rfl rfl rfl (by decide) rfl rfl ?_
      dsimp only [List.set]
      refine ev_goto rfl rfl ?_
      refine EvQ.hp (k_rai h to fr g (i + 1)) (k_rai_s1 c_36) ?_
      rw [nI_1 i]
      exact EvQ.drop 5 (ih (i + 1) (by omega))
    · refine ev_aload_n rfl rfl rfl ?_
      refine ev_getR rfl rfl fl_X4_9 rfl rfl rfl rfl ?_
      refine ev_iload_n rfl rfl rfl ?_
      refine ev_iload rfl rfl rfl ?_
      refine ev_iaddV (v := nI (to + i)) (nI_ad _ _).symm rfl rfl ?_
      refine ev_iload rfl rfl rfl ?_
      refine ev_iast rfl rfl rfl rfl (vp_in_nI (by omega) (by decide)) (nI_clamp (by omega)) ?_
      refine ev_iinc (y := 1) rfl rfl rfl (by decide) rfl rfl ?_
      dsimp only [List.set]
      refine ev_goto rfl rfl ?_
      refine EvQ.hp (k_rai h to fr g (i + 1)) (k_rai_s2 c_36) ?_
      rw [nI_1 i]
      exact EvQ.drop 5 (ih (i + 1) (by omega))

set_option maxRecDepth 100000 in
set_option maxHeartbeats 4000000 in
theorem c_raise (L : Nat) (h : Hp) (to fr lv : Nat) (hl : h 37 4 = nI lv) (l9 : lv ≤ 9) (ht : to + 9 ≤ 45225) (hf : fr + 9 ≤ 45225) (hd : to + lv ≤ fr) (g : Int32) : EvU mi_X4_raise [.ref 37, .int (nI to), .int (nI fr), .int g] (G0 L true) h (k_rai h to fr g lv) := by
  refine EvU.of (lo := [some (.ref 37), some (.int (nI to)), some (.int (nI fr)), some (.int g), none, none]) pf_X4_raise ok_X4_raise rfl rfl ?_
  refine ev_iconst (v := 0) rfl rfl (by decide) ?_
  refine ev_istore rfl rfl rfl rfl ?_
  dsimp only [List.set]
  refine EvQ.hp (k_rai h to fr g 0) (k_rai_0 h to fr g).symm ?_
  exact l_raise L h to fr lv hl l9 ht hf hd g lv 0 (by omega)

set_option maxRecDepth 100000 in
set_option maxHeartbeats 4000000 in
theorem l_fz (L : Nat) (F : Hp) (i p lv : Nat) (hi : i < 24) (hp : p ≤ 200) (e4 : F 37 4 = nI lv) (l9 : lv ≤ 9) (Q : Pst) (kk : EvQ mi_X4_fillSounding 46 [some (.ref 37), some (.ref 2), some (.int (nI i)), some (.int (nI p)), some (.int (nI ((i * 201 + p) * 9))), some (.int (nI lv)), none] [] (G0 L true) (k_zf F ((i * 201 + p) * 9) lv) 0 0 Q) : ∀ t c : Nat, c + t = lv → EvQ mi_X4_fillSounding 20 [some (.ref 37), some (.ref 2), some (.int (nI i)), some (.int (nI p)), some (.int (nI ((i * 201 + p) * 9))), some (.int (nI c)), none] [] (G0 L true) (k_zf F ((i * 201 + p) * 9) c) 0 0 Q := by
  intro t
  induction t with
  | zero =>
    intro c hc
    have hc2 : c = lv := by omega
    subst hc2
    refine ev_iload rfl rfl rfl ?_
    refine ev_aload_n rfl rfl rfl ?_
    refine ev_getI rfl rfl fl_X4_25 rfl rfl rfl ?_
    try simp (disch := omega) only [k_zf_ne]
    refine ev_icmp_ge rfl rfl (fun c_26 => ?_) (fun z_ => absurd (by rw [e4]; exact Int32.le_refl _) z_)
    exact kk
  | succ t ih =>
    intro c hc
    refine ev_iload rfl rfl rfl ?_
    refine ev_aload_n rfl rfl rfl ?_
    refine ev_getI rfl rfl fl_X4_25 rfl rfl rfl ?_
    try simp (disch := omega) only [k_zf_ne]
    refine ev_icmp_ge rfl rfl (fun z_ => absurd z_ (by rw [e4]; exact nI_ge (by omega) (by omega))) (fun c_26 => ?_)
    refine ev_aload_n rfl rfl rfl ?_
    refine ev_getR rfl rfl fl_X4_9 rfl rfl rfl rfl ?_
    refine ev_iload rfl rfl rfl ?_
    refine ev_iload rfl rfl rfl ?_
    refine ev_iaddV (v := nI (((i * 201 + p) * 9) + c)) (nI_ad _ _).symm rfl rfl ?_
    refine ev_iconst (v := 0) rfl rfl (by decide) ?_
    refine ev_iast rfl rfl rfl rfl (vp_in_nI (by omega) (by decide)) (nI_clamp (by omega)) ?_
    refine ev_iinc (y := 1) rfl rfl rfl (by decide) rfl rfl ?_
    dsimp only [List.set]
    refine ev_goto rfl rfl ?_
    refine EvQ.hp (k_zf F ((i * 201 + p) * 9) (c + 1)) (k_zf_s F _ c) ?_
    rw [nI_1 c]
    exact ih (c + 1) (by omega)

set_option maxRecDepth 100000 in
set_option maxHeartbeats 4000000 in
theorem l_fs (L : Nat) (h : Hp) (V : Nat) (hV : V ≤ 200) (eV : h 2 3 = nI V) (D : Nat → Int32) (N : Nat → Nat → Nat) (hN : ∀ p y, nI (N p y) = z_min (h 2 3) (z_max 0 (nI p + 2 * h 2 2 - D y))) (hNV : ∀ p y, N p y ≤ V) (R : Nat) (hR : R ≤ 8) (e4 : h 37 4 = nI (R + 1)) (n : Nat) (n31 : n ≤ 31) (x : Nat) (hx : x < 4096) (h0 : sbm x n = 0) (e7 : h 37 7 = nI (n + 1)) (e40 : ∀ k, k ≤ n → h 40 k = nI (sbm x k)) (e41 : ∀ k, k ≤ n → h 41 k = D (sbm x k)) (a : Nat → Nat) (e38 : ∀ p, p ≤ 200 → h 38 p = nI (a p)) (i : Nat) (hi : i < 24) (Fn : Nat → Nat → Nat) (bF : ∀ r p, Fn r p ≤ 3000) (eT : ∀ r, r ≤ R → ∀ q, q ≤ V → h 95 ((((i + 1) * 201 + q) * 9) + r) = nI (Fn r q)) (p : Nat) (hp : p ≤ V) (F : Hp) (eF : ∀ j, (i + 1) * 1809 ≤ j → F 95 j = h 95 j) (Q : Pst) (kk : ∀ F1 : Hp, JW [(95, 999)] h F1 → (∀ r, r ≤ R → F1 95 (((i * 201 + p) * 9) + r) = nI (q_vS 9 N (Fn r) p (x &&& a p))) → (∀ j, (j < ((i * 201 + p) * 9) ∨ ((i * 201 + p) * 9) + (R + 1) ≤ j) → F1 95 j = F 95 j) → EvQ mi_X4_fillSounding 115 [some (.ref 37), some (.ref 2), some (.int (nI i)), some (.int (nI p)), some (.int (nI ((i * 201 + p) * 9))), some (.int (nI (n + 1))), none] [] (G0 L true) F1 0 0 Q) : ∀ (t k : Nat) (F1 : Hp), k + t = n + 1 → JW [(95, 999)] h F1 → (∀ r, r ≤ R → F1 95 (((i * 201 + p) * 9) + r) = nI (q_mxo (q_wr 9 N (Fn r) p) x (a p) k)) → (∀ j, (j < ((i * 201 + p) * 9) ∨ ((i * 201 + p) * 9) + (R + 1) ≤ j) → F1 95 j = F 95 j) → EvQ mi_X4_fillSounding 49 [some (.ref 37), some (.ref 2), some (.int (nI i)), some (.int (nI p)), some (.int (nI ((i * 201 + p) * 9))), some (.int (nI k)), none] [] (G0 L true) F1 0 0 Q := by
  intro t
  induction t with
  | zero =>
    intro k F1 hk hF e1 e2
    have hk2 : k = n + 1 := by omega
    subst hk2
    have f23 : F1 2 3 = h 2 3 := hF.2 2 3 rfl
    have f22 : F1 2 2 = h 2 2 := hF.2 2 2 rfl
    have f37 : F1 37 7 = nI (n + 1) := (hF.2 37 7 rfl).trans e7
    refine ev_iload rfl rfl rfl ?_
    refine ev_aload_n rfl rfl rfl ?_
    refine ev_getI rfl rfl fl_X4_34 rfl rfl rfl ?_
    try simp only [f37]
    refine ev_icmp_ge rfl rfl (fun c_55 => ?_) (fun z_ => absurd (Int32.le_refl _) z_)
    exact kk F1 hF (fun r hr => by rw [e1 r hr]; exact congrArg nI (q_mxo_end h0)) e2
  | succ t ih =>
    intro k F1 hk hF e1 e2
    have f23 : F1 2 3 = h 2 3 := hF.2 2 3 rfl
    have f22 : F1 2 2 = h 2 2 := hF.2 2 2 rfl
    have f37 : F1 37 7 = nI (n + 1) := (hF.2 37 7 rfl).trans e7
    have f40 : F1 40 k = nI (sbm x k) := (hF.2 40 k rfl).trans (e40 k (by omega))
    have f41 : F1 41 k = D (sbm x k) := (hF.2 41 k rfl).trans (e41 k (by omega))
    have nv := hNV p (sbm x k)
    have eT1 : ∀ r, r ≤ R → F1 95 ((((i + 1) * 201 + (N p (sbm x k))) * 9) + r) = nI (Fn r (N p (sbm x k))) := fun r hr => by
      rw [e2 _ (by omega), eF _ (by omega)]
      exact eT r hr _ nv
    refine ev_iload rfl rfl rfl ?_
    refine ev_aload_n rfl rfl rfl ?_
    refine ev_getI rfl rfl fl_X4_34 rfl rfl rfl ?_
    try simp only [f37, f40, f41]
    refine ev_icmp_ge rfl rfl (fun z_ => absurd z_ (nI_ge (by omega) (by omega))) (fun c_55 => ?_)
    refine ev_aload_n rfl rfl rfl ?_
    refine ev_iload rfl rfl rfl ?_
    refine ev_iload_n rfl rfl rfl ?_
    refine ev_V2D rfl rfl lk_X4_119 vt_X4_isOpen rfl rfl rfl rfl rfl (c_isOpen L true F1 k p (by omega) (by omega) (sbm x k) (a p) (sbm_12 hx k) f40 ((hF.2 38 p rfl).trans (e38 p (by omega)))) ?_
    refine ev_if_eq rfl rfl (fun c_65 => ?_) (fun c_65 => ?_)
    · refine ev_iinc (y := 1) rfl rfl rfl (by decide) rfl rfl ?_
      dsimp only [List.set]
      refine ev_goto rfl rfl ?_
      rw [nI_1 k]
      refine ih (k + 1) F1 (by omega) hF (fun r hr => ?_) e2
      rw [e1 r hr]
      exact congrArg nI (if_neg (fun z => by rw [if_pos z] at c_65; exact absurd c_65 (by decide))).symm
    · refine ev_bipush (v := 9) rfl rfl (by decide) ?_
      refine ev_aload_n rfl rfl rfl ?_
      refine ev_getR rfl rfl fl_X4_28 rfl rfl rfl rfl ?_
      refine ev_iload rfl rfl rfl ?_
      refine ev_iald rfl rfl rfl (vp_in_nI (by omega) (by decide)) (nI_clamp (by omega)) ?_
      try simp only [f37, f40, f41]
      refine ev_S1D rfl rfl lk_X4_123 st_J6_bitCount_0f7a4 rfl rfl (EvD.to (c_bitCount _ _ _) (bc_pop (sbm_12 hx k)) rfl) ?_
      refine ev_imulV (v := nI (9 * q_pop (sbm x k))) (nI_mul 9 _).symm rfl rfl ?_
      refine ev_istore rfl rfl rfl rfl ?_
      dsimp only [List.set]
      refine ev_aload_n rfl rfl rfl ?_
      refine ev_iload rfl rfl rfl ?_
      refine ev_iload_n rfl rfl rfl ?_
      refine ev_iconst (v := 1) rfl rfl (by decide) ?_
      refine ev_iaddV (v := nI (i + 1)) (nI_1 i).symm rfl rfl ?_
      refine ev_aload_n rfl rfl rfl ?_
      refine ev_iload_n rfl rfl rfl ?_
      refine ev_aload_n rfl rfl rfl ?_
      refine ev_getR rfl rfl fl_X4_31 rfl rfl rfl rfl ?_
      refine ev_iload rfl rfl rfl ?_
      refine ev_iald rfl rfl rfl (vp_in_nI (by omega) (by decide)) (nI_clamp (by omega)) ?_
      try simp only [f37, f40, f41]
      refine ev_V2D rfl rfl lk_X4_129 vt_X1_after rfl rfl rfl rfl rfl (EvD.to (c_after (G0 L true) F1 2 rfl rfl (nI p) (D (sbm x k))) (show _ = nI (N p (sbm x k)) from by rw [f23, f22]; exact (hN p (sbm x k)).symm) rfl) ?_
      refine ev_S2D rfl rfl lk_X4_84 st_X4_cell rfl rfl (c_cellE _ _ (i + 1) (N p (sbm x k))) ?_
      refine ev_iload rfl rfl rfl ?_
      refine ev_V3U rfl rfl lk_X4_132 vt_X4_raise rfl rfl rfl rfl rfl (c_raise L F1 ((i * 201 + p) * 9) (((i + 1) * 201 + (N p (sbm x k))) * 9) (R + 1) ((hF.2 37 4 rfl).trans e4) (by omega) (by omega) (by omega) (by omega) _) ?_
      refine ev_iinc (y := 1) rfl rfl rfl (by decide) rfl rfl ?_
      dsimp only [List.set]
      refine ev_goto rfl rfl ?_
      rw [nI_1 k]
      refine EvQ.drop 6 (ih (k + 1) _ (by omega) (hF.rai (fun _ => rfl) _ _ _ _) (fun r hr => ?_) (fun j hj => ?_))
      · have op : sbm x k &&& a p = sbm x k := Decidable.byContradiction (fun z => c_65 (if_neg z))
        have b1 := q_pop_le (sbm x k)
        have b2 := bF r (N p (sbm x k))
        have b3 : q_mxo (q_wr 9 N (Fn r) p) x (a p) k ≤ 9 * 12 + 3000 := q_mxo_le _ _ _ _ (fun j _ => q_wr_le (fun q => bF r q) _) k
        rw [k_rai_in (by omega), e1 r hr, eT1 r hr, nI_ad, zmx (by omega) (by omega)]
        exact congrArg nI (if_pos op).symm
      · rw [k_rai_out hj]; exact e2 j hj

set_option maxRecDepth 100000 in
set_option maxHeartbeats 4000000 in
theorem l_fp (L : Nat) (h : Hp) (V : Nat) (hV : V ≤ 200) (eV : h 2 3 = nI V) (D : Nat → Int32) (N : Nat → Nat → Nat) (hN : ∀ p y, nI (N p y) = z_min (h 2 3) (z_max 0 (nI p + 2 * h 2 2 - D y))) (hNV : ∀ p y, N p y ≤ V) (R : Nat) (hR : R ≤ 8) (e4 : h 37 4 = nI (R + 1)) (n : Nat) (n31 : n ≤ 31) (x : Nat) (hx : x < 4096) (h0 : sbm x n = 0) (e7 : h 37 7 = nI (n + 1)) (e40 : ∀ k, k ≤ n → h 40 k = nI (sbm x k)) (e41 : ∀ k, k ≤ n → h 41 k = D (sbm x k)) (a : Nat → Nat) (e38 : ∀ p, p ≤ 200 → h 38 p = nI (a p)) (i : Nat) (hi : i < 24) (Fn : Nat → Nat → Nat) (bF : ∀ r p, Fn r p ≤ 3000) (eT : ∀ r, r ≤ R → ∀ q, q ≤ V → h 95 ((((i + 1) * 201 + q) * 9) + r) = nI (Fn r q)) : ∀ (t p : Nat) (F : Hp), p + t = V + 1 → JW [(95, 999)] h F → (∀ p', p' < p → ∀ r, r ≤ R → F 95 (((i * 201 + p') * 9) + r) = nI (q_vS 9 N (Fn r) p' (x &&& a p'))) → (∀ j, (i + 1) * 1809 ≤ j → F 95 j = h 95 j) → EvQ mi_X4_fillSounding 2 [some (.ref 37), some (.ref 2), some (.int (nI i)), some (.int (nI p)), none, none, none] [] (G0 L true) F 0 0 (QK (fun z => (∀ p, p ≤ V → ∀ r, r ≤ R → z 95 (((i * 201 + p) * 9) + r) = nI (q_vS 9 N (Fn r) p (x &&& a p))) ∧ ∀ j, (i + 1) * 1809 ≤ j → z 95 j = h 95 j) [(95, 999)] (G0 L true) h) := by
  intro t
  induction t with
  | zero =>
    intro p F hp hF e1 e2
    have hp2 : p = V + 1 := by omega
    subst hp2
    have fV : F 2 3 = nI V := (hF.2 2 3 rfl).trans eV
    refine ev_iload_n rfl rfl rfl ?_
    refine ev_aload_n rfl rfl rfl ?_
    refine ev_getI rfl rfl fl_X4_114 rfl rfl rfl ?_
    try simp only [fV]
    refine ev_icmp_gt rfl rfl (fun c_7 => ?_) (fun z_ => absurd (show nI V < nI (V + 1) from (nI_lt2 (by omega) (by omega)).mpr (by omega)) z_)
    exact ev_vret rfl rfl trivial (⟨rfl, rfl, hF, fun p hp r hr => e1 p (by omega) r hr, e2⟩)
  | succ t ih =>
    intro p F hp hF e1 e2
    have fV : F 2 3 = nI V := (hF.2 2 3 rfl).trans eV
    refine ev_iload_n rfl rfl rfl ?_
    refine ev_aload_n rfl rfl rfl ?_
    refine ev_getI rfl rfl fl_X4_114 rfl rfl rfl ?_
    try simp only [fV]
    refine ev_icmp_gt rfl rfl (fun z_ => absurd z_ (show ¬ nI V < nI p from fun z => absurd ((nI_lt2 (by omega) (by omega)).mp z) (by omega))) (fun c_7 => ?_)
    refine ev_iload_n rfl rfl rfl ?_
    refine ev_iload_n rfl rfl rfl ?_
    refine ev_S2D rfl rfl lk_X4_84 st_X4_cell rfl rfl (c_cellE _ _ i p) ?_
    refine ev_istore rfl rfl rfl rfl ?_
    dsimp only [List.set]
    refine ev_iconst (v := 0) rfl rfl (by decide) ?_
    refine ev_istore rfl rfl rfl rfl ?_
    dsimp only [List.set]
    refine EvQ.hp (k_zf F ((i * 201 + p) * 9) 0) (k_zf_0 F _).symm ?_
    refine l_fz L F i p (R + 1) hi (by omega) ((hF.2 37 4 rfl).trans e4) (by omega) _ ?_ (R + 1) 0 (by omega)
    refine ev_iconst (v := 0) rfl rfl (by decide) ?_
    refine ev_istore rfl rfl rfl rfl ?_
    dsimp only [List.set]
    refine l_fs L h V hV eV D N hN hNV R hR e4 n n31 x hx h0 e7 e40 e41 a e38 i hi Fn bF eT p (by omega) F e2 _ (fun F2 hF2 g1 g2 => ?_) (n + 1) 0 (k_zf F ((i * 201 + p) * 9) (R + 1)) (by omega) (hF.zf (fun _ => rfl) _ _) (fun r hr => k_zf_in (by omega) (by omega)) (fun j hj => k_zf_out hj)
    refine ev_iinc (y := 1) rfl rfl rfl (by decide) rfl rfl ?_
    dsimp only [List.set]
    refine ev_goto rfl rfl ?_
    rw [nI_1 p]
    refine EvQ.drop 5 (EvQ.drop 4 (ih (p + 1) F2 (by omega) hF2 (fun p' hp' r hr => ?_) (fun j hj => ?_)))
    · by_cases e : p' = p
      · subst e; exact g1 r hr
      · rw [g2 _ (by omega)]; exact e1 p' (by omega) r hr
    · rw [g2 _ (by omega)]; exact e2 j hj

set_option maxRecDepth 100000 in
set_option maxHeartbeats 4000000 in
theorem c_fillS (L : Nat) (h : Hp) (hB : Bx h) (V : Nat) (hV : V ≤ 200) (eV : h 2 3 = nI V) (D : Nat → Int32) (N : Nat → Nat → Nat) (hN : ∀ p y, nI (N p y) = z_min (h 2 3) (z_max 0 (nI p + 2 * h 2 2 - D y))) (hNV : ∀ p y, N p y ≤ V) (R : Nat) (hR : R ≤ 8) (e4 : h 37 4 = nI (R + 1)) (n : Nat) (n31 : n ≤ 31) (x : Nat) (hx : x < 4096) (h0 : sbm x n = 0) (e7 : h 37 7 = nI (n + 1)) (e40 : ∀ k, k ≤ n → h 40 k = nI (sbm x k)) (e41 : ∀ k, k ≤ n → h 41 k = D (sbm x k)) (a : Nat → Nat) (e38 : ∀ p, p ≤ 200 → h 38 p = nI (a p)) (i : Nat) (hi : i < 24) (Fn : Nat → Nat → Nat) (bF : ∀ r p, Fn r p ≤ 3000) (eT : ∀ r, r ≤ R → ∀ q, q ≤ V → h 95 ((((i + 1) * 201 + q) * 9) + r) = nI (Fn r q))  : EvK mi_X4_fillSounding [.ref 37, .ref 2, .int (nI i)] (G0 L true) h (fun z => (∀ p, p ≤ V → ∀ r, r ≤ R → z 95 (((i * 201 + p) * 9) + r) = nI (q_vS 9 N (Fn r) p (x &&& a p))) ∧ ∀ j, (i + 1) * 1809 ≤ j → z 95 j = h 95 j) [(95, 999)] := by
  refine EvM.of2 (lo := [some (.ref 37), some (.ref 2), some (.int (nI i)), none, none, none, none]) pf_X4_fillSounding ok_X4_fillSounding rfl rfl ?_
  refine ev_iconst (v := 0) rfl rfl (by decide) ?_
  refine ev_istore_n rfl rfl rfl rfl ?_
  dsimp only [List.set]
  exact l_fp L h V hV eV D N hN hNV R hR e4 n n31 x hx h0 e7 e40 e41 a e38 i hi Fn bF eT (V + 1) 0 h (by omega) (JW.refl hB) (fun p' hp' => absurd hp' (Nat.not_lt_zero _)) (fun j _ => rfl)

set_option maxRecDepth 100000 in
set_option maxHeartbeats 4000000 in
theorem l_rp (L : Nat) (h : Hp) (V : Nat) (hV : V ≤ 200) (eV : h 2 3 = nI V) (D : Nat → Int32) (N : Nat → Nat → Nat) (hN : ∀ p y, nI (N p y) = z_min (h 2 3) (z_max 0 (nI p + 2 * h 2 2 - D y))) (hNV : ∀ p y, N p y ≤ V) (R : Nat) (hR : R ≤ 8) (e4 : h 37 4 = nI (R + 1)) (e8 : h 37 8 = D 0) (a : Nat → Nat) (i : Nat) (hi : i < 24) (Fn : Nat → Nat → Nat) (bF : ∀ r p, Fn r p ≤ 3000) (eS : ∀ p, p ≤ V → ∀ r, r ≤ R → h 95 (((i * 201 + p) * 9) + r) = nI (q_vS 9 N (Fn r) p (a p))) (u : Nat) (hu : u + 1 ≤ R) (Q : Pst) (kk : ∀ F : Hp, JW [(95, 999)] h F → (∀ p' r', p' ≤ V → r' ≤ R → F 95 (((i * 201 + p') * 9) + r') = nI (if r' < u + 1 + 1 then q_nx 9 N Fn a r' p' else q_vS 9 N (Fn r') p' (a p'))) → (∀ j, (i + 1) * 1809 ≤ j → F 95 j = h 95 j) → EvQ mi_X4_fillResting 84 [some (.ref 37), some (.ref 2), some (.int (nI i)), some (.int (nI (u + 1))), some (.int (nI (V + 1))), none, none] [] (G0 L true) F 0 0 Q) : ∀ (t p : Nat) (F : Hp), p + t = V + 1 → JW [(95, 999)] h F → (∀ p' r', p' ≤ V → r' ≤ R → F 95 (((i * 201 + p') * 9) + r') = nI (if r' < u + 1 ∨ r' = u + 1 ∧ p' < p then q_nx 9 N Fn a r' p' else q_vS 9 N (Fn r') p' (a p'))) → (∀ j, (i + 1) * 1809 ≤ j → F 95 j = h 95 j) → EvQ mi_X4_fillResting 13 [some (.ref 37), some (.ref 2), some (.int (nI i)), some (.int (nI (u + 1))), some (.int (nI p)), none, none] [] (G0 L true) F 0 0 Q := by
  intro t
  induction t with
  | zero =>
    intro p F hp hF e1 e2
    have hp2 : p = V + 1 := by omega
    subst hp2
    have bS : ∀ r' p', q_vS 9 N (Fn r') p' (a p') ≤ 9 * 12 + 3000 := fun r' p' => q_wr_le (bF r') _
    have bN : ∀ r' p', q_nx 9 N Fn a r' p' ≤ 9 * 12 + 3000 := fun r' p' => q_nx_le bF r' p'
    have fV : F 2 3 = nI V := (hF.2 2 3 rfl).trans eV
    have f23 : F 2 3 = h 2 3 := hF.2 2 3 rfl
    have f22 : F 2 2 = h 2 2 := hF.2 2 2 rfl
    have f8 : F 37 8 = D 0 := (hF.2 37 8 rfl).trans e8
    refine ev_iload rfl rfl rfl ?_
    refine ev_aload_n rfl rfl rfl ?_
    refine ev_getI rfl rfl fl_X4_114 rfl rfl rfl ?_
    try simp only [fV]
    refine ev_icmp_gt rfl rfl (fun c_19 => ?_) (fun z_ => absurd (show nI V < nI (V + 1) from (nI_lt2 (by omega) (by omega)).mpr (by omega)) z_)
    exact kk F hF (fun p' r' hp' hr' => by rw [e1 p' r' hp' hr']; congr 1; exact ite_cg (by omega)) e2
  | succ t ih =>
    intro p F hp hF e1 e2
    have bS : ∀ r' p', q_vS 9 N (Fn r') p' (a p') ≤ 9 * 12 + 3000 := fun r' p' => q_wr_le (bF r') _
    have bN : ∀ r' p', q_nx 9 N Fn a r' p' ≤ 9 * 12 + 3000 := fun r' p' => q_nx_le bF r' p'
    have fV : F 2 3 = nI V := (hF.2 2 3 rfl).trans eV
    have f23 : F 2 3 = h 2 3 := hF.2 2 3 rfl
    have f22 : F 2 2 = h 2 2 := hF.2 2 2 rfl
    have f8 : F 37 8 = D 0 := (hF.2 37 8 rfl).trans e8
    have nv := hNV p 0
    have g1 : F 95 (((i * 201 + (N p 0)) * 9) + u) = nI (q_nx 9 N Fn a u (N p 0)) := by
      rw [e1 _ u nv (by omega), if_pos (Or.inl (Nat.lt_succ_self u))]
    have g2 : F 95 (((i * 201 + p) * 9) + (u + 1)) = nI (q_vS 9 N (Fn (u + 1)) p (a p)) := by
      rw [e1 p (u + 1) (by omega) hu, if_neg (by omega)]
    refine ev_iload rfl rfl rfl ?_
    refine ev_aload_n rfl rfl rfl ?_
    refine ev_getI rfl rfl fl_X4_114 rfl rfl rfl ?_
    try simp only [fV, f8, g1, g2]
    refine ev_icmp_gt rfl rfl (fun z_ => absurd z_ (show ¬ nI V < nI p from fun z => absurd ((nI_lt2 (by omega) (by omega)).mp z) (by omega))) (fun c_19 => ?_)
    refine ev_aload_n rfl rfl rfl ?_
    refine ev_getR rfl rfl fl_X4_9 rfl rfl rfl rfl ?_
    refine ev_iload_n rfl rfl rfl ?_
    refine ev_aload_n rfl rfl rfl ?_
    refine ev_iload rfl rfl rfl ?_
    refine ev_aload_n rfl rfl rfl ?_
    refine ev_getI rfl rfl fl_X4_37 rfl rfl rfl ?_
    try simp only [fV, f8, g1, g2]
    refine ev_V2D rfl rfl lk_X4_129 vt_X1_after rfl rfl rfl rfl rfl (EvD.to (c_after (G0 L true) F 2 rfl rfl (nI p) (D 0)) (show _ = nI (N p 0) from by rw [f23, f22]; exact (hN p 0).symm) rfl) ?_
    refine ev_S2D rfl rfl lk_X4_84 st_X4_cell rfl rfl (c_cellE _ _ i (N p 0)) ?_
    refine ev_iload_n rfl rfl rfl ?_
    refine ev_iaddV (v := nI (((i * 201 + (N p 0)) * 9) + (u + 1))) (nI_ad _ _).symm rfl rfl ?_
    refine ev_iconst (v := 1) rfl rfl (by decide) ?_
    refine ev_isubV (v := nI (((i * 201 + (N p 0)) * 9) + u)) (nI_mm _ _ (by omega)) rfl rfl ?_
    refine ev_iald rfl rfl rfl (vp_in_nI (by omega) (by decide)) (nI_clamp (by omega)) ?_
    try simp only [fV, f8, g1, g2]
    refine ev_iconst (v := 1) rfl rfl (by decide) ?_
    refine ev_isub rfl rfl ?_
    refine ev_istore rfl rfl rfl rfl ?_
    dsimp only [List.set]
    refine ev_iload_n rfl rfl rfl ?_
    refine ev_iload rfl rfl rfl ?_
    refine ev_S2D rfl rfl lk_X4_84 st_X4_cell rfl rfl (c_cellE _ _ i p) ?_
    refine ev_iload_n rfl rfl rfl ?_
    refine ev_iaddV (v := nI (((i * 201 + p) * 9) + (u + 1))) (nI_ad _ _).symm rfl rfl ?_
    refine ev_istore rfl rfl rfl rfl ?_
    dsimp only [List.set]
    refine ev_aload_n rfl rfl rfl ?_
    refine ev_getR rfl rfl fl_X4_9 rfl rfl rfl rfl ?_
    refine ev_iload rfl rfl rfl ?_
    refine ev_aload_n rfl rfl rfl ?_
    refine ev_getR rfl rfl fl_X4_9 rfl rfl rfl rfl ?_
    refine ev_iload rfl rfl rfl ?_
    refine ev_iald rfl rfl rfl (vp_in_nI (by omega) (by decide)) (nI_clamp (by omega)) ?_
    try simp only [fV, f8, g1, g2]
    refine ev_iload rfl rfl rfl ?_
    refine ev_S2D rfl rfl lk_X4_136 st_J9_max_7cf53 rfl rfl (c_max _ _ _ _) ?_
    refine ev_iast rfl rfl rfl rfl (vp_in_nI (by omega) (by decide)) (nI_clamp (by omega)) ?_
    refine ev_iinc (y := 1) rfl rfl rfl (by decide) rfl rfl ?_
    dsimp only [List.set]
    refine ev_goto rfl rfl ?_
    rw [nI_1 p]
    refine EvQ.drop 6 (EvQ.drop 5 (ih (p + 1) _ (by omega) (hF.set rfl (B.any _)) (fun p' r' hp' hr' => ?_) (fun j hj => ?_)))
    · rw [ev_sj]
      by_cases c : ((i * 201 + p') * 9) + r' = ((i * 201 + p) * 9) + (u + 1)
      · have ep : p' = p := by omega
        have er : r' = u + 1 := by omega
        subst ep
        subst er
        rw [if_pos rfl, if_pos (show u + 1 < u + 1 ∨ u + 1 = u + 1 ∧ p' < p' + 1 by omega)]
        rw [z_max_m (by have := bS (u + 1) p'; omega) (by have := bN u (N p' 0); omega)]
        rfl
      · rw [if_neg c, e1 p' r' hp' hr']
        congr 1
        by_cases d : r' < u + 1 ∨ r' = u + 1 ∧ p' < p
        · rw [if_pos d, if_pos (by omega)]
        · rw [if_neg d, if_neg (by omega)]
    · rw [ev_rd3 (by omega)]; exact e2 j hj

set_option maxRecDepth 100000 in
set_option maxHeartbeats 4000000 in
theorem l_rr (L : Nat) (h : Hp) (V : Nat) (hV : V ≤ 200) (eV : h 2 3 = nI V) (D : Nat → Int32) (N : Nat → Nat → Nat) (hN : ∀ p y, nI (N p y) = z_min (h 2 3) (z_max 0 (nI p + 2 * h 2 2 - D y))) (hNV : ∀ p y, N p y ≤ V) (R : Nat) (hR : R ≤ 8) (e4 : h 37 4 = nI (R + 1)) (e8 : h 37 8 = D 0) (a : Nat → Nat) (i : Nat) (hi : i < 24) (Fn : Nat → Nat → Nat) (bF : ∀ r p, Fn r p ≤ 3000) (eS : ∀ p, p ≤ V → ∀ r, r ≤ R → h 95 (((i * 201 + p) * 9) + r) = nI (q_vS 9 N (Fn r) p (a p))) : ∀ (t u : Nat) (F : Hp), u + t = R → JW [(95, 999)] h F → (∀ p' r', p' ≤ V → r' ≤ R → F 95 (((i * 201 + p') * 9) + r') = nI (if r' < u + 1 then q_nx 9 N Fn a r' p' else q_vS 9 N (Fn r') p' (a p'))) → (∀ j, (i + 1) * 1809 ≤ j → F 95 j = h 95 j) → EvQ mi_X4_fillResting 2 [some (.ref 37), some (.ref 2), some (.int (nI i)), some (.int (nI (u + 1))), none, none, none] [] (G0 L true) F 0 0 (QK (fun z => (∀ p, p ≤ V → ∀ r, r ≤ R → z 95 (((i * 201 + p) * 9) + r) = nI (q_nx 9 N Fn a r p)) ∧ (∀ j, (i + 1) * 1809 ≤ j → z 95 j = h 95 j)) [(95, 999)] (G0 L true) h) := by
  intro t
  induction t with
  | zero =>
    intro u F hu hF e1 e2
    have hu2 : u = R := by omega
    subst hu2
    have f4 : F 37 4 = nI (u + 1) := (hF.2 37 4 rfl).trans e4
    refine ev_iload_n rfl rfl rfl ?_
    refine ev_aload_n rfl rfl rfl ?_
    refine ev_getI rfl rfl fl_X4_25 rfl rfl rfl ?_
    try simp only [f4]
    refine ev_icmp_ge rfl rfl (fun c_7 => ?_) (fun z_ => absurd (Int32.le_refl _) z_)
    exact ev_vret rfl rfl trivial (⟨rfl, rfl, hF, fun p hp r hr => by rw [e1 p r hp hr, if_pos (by omega)], e2⟩)
  | succ t ih =>
    intro u F hu hF e1 e2
    have f4 : F 37 4 = nI (R + 1) := (hF.2 37 4 rfl).trans e4
    refine ev_iload_n rfl rfl rfl ?_
    refine ev_aload_n rfl rfl rfl ?_
    refine ev_getI rfl rfl fl_X4_25 rfl rfl rfl ?_
    try simp only [f4]
    refine ev_icmp_ge rfl rfl (fun z_ => absurd z_ (nI_ge (by omega) (by omega))) (fun c_7 => ?_)
    refine ev_iconst (v := 0) rfl rfl (by decide) ?_
    refine ev_istore rfl rfl rfl rfl ?_
    dsimp only [List.set]
    refine l_rp L h V hV eV D N hN hNV R hR e4 e8 a i hi Fn bF eS u (by omega) _ (fun F2 hF2 g1 g2 => ?_) (V + 1) 0 F (by omega) hF (fun p' r' hp' hr' => ?_) e2
    · skip
      refine ev_iinc (y := 1) rfl rfl rfl (by decide) rfl rfl ?_
      dsimp only [List.set]
      refine ev_goto rfl rfl ?_
      rw [nI_1]
      exact EvQ.drop 4 (ih (u + 1) F2 (by omega) hF2 g1 g2)
    · rw [e1 p' r' hp' hr']
      congr 1
      by_cases d : r' < u + 1
      · rw [if_pos d, if_pos (Or.inl d)]
      · rw [if_neg d, if_neg (by omega)]

set_option maxRecDepth 100000 in
set_option maxHeartbeats 4000000 in
theorem c_fillR (L : Nat) (h : Hp) (hB : Bx h) (V : Nat) (hV : V ≤ 200) (eV : h 2 3 = nI V) (D : Nat → Int32) (N : Nat → Nat → Nat) (hN : ∀ p y, nI (N p y) = z_min (h 2 3) (z_max 0 (nI p + 2 * h 2 2 - D y))) (hNV : ∀ p y, N p y ≤ V) (R : Nat) (hR : R ≤ 8) (e4 : h 37 4 = nI (R + 1)) (e8 : h 37 8 = D 0) (a : Nat → Nat) (i : Nat) (hi : i < 24) (Fn : Nat → Nat → Nat) (bF : ∀ r p, Fn r p ≤ 3000) (eS : ∀ p, p ≤ V → ∀ r, r ≤ R → h 95 (((i * 201 + p) * 9) + r) = nI (q_vS 9 N (Fn r) p (a p)))  : EvK mi_X4_fillResting [.ref 37, .ref 2, .int (nI i)] (G0 L true) h (fun z => (∀ p, p ≤ V → ∀ r, r ≤ R → z 95 (((i * 201 + p) * 9) + r) = nI (q_nx 9 N Fn a r p)) ∧ (∀ j, (i + 1) * 1809 ≤ j → z 95 j = h 95 j)) [(95, 999)] := by
  refine EvM.of2 (lo := [some (.ref 37), some (.ref 2), some (.int (nI i)), none, none, none, none]) pf_X4_fillResting ok_X4_fillResting rfl rfl ?_
  refine ev_iconst (v := 1) rfl rfl (by decide) ?_
  refine ev_istore_n rfl rfl rfl rfl ?_
  dsimp only [List.set]
  refine l_rr L h V hV eV D N hN hNV R hR e4 e8 a i hi Fn bF eS R 0 h (by omega) (JW.refl hB) (fun p' r' hp' hr' => ?_) (fun j _ => rfl)
  rw [eS p' hp' r' hr']
  congr 1
  by_cases d : r' < 0 + 1
  · have e0 : r' = 0 := by omega
    subst e0
    rw [if_pos d]
    rfl
  · rw [if_neg d]
