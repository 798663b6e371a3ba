set_option maxRecDepth 100000 in
set_option maxHeartbeats 4000000 in
theorem l_m267 (L : Nat) (b : Bool) (h : Hp) (V : Nat) (hV : V ≤ 200) (eV : h 63 3 = nI V) (m : Nat) (hm0 : m ≤ 12) (D : Nat → Int32) (N : Nat → Nat → Nat) (hN : ∀ p y, y < 2 ^ m → nI (N p y) = zth h (nI p) (D y)) (hNV : ∀ p y, N p y ≤ V) (R : Nat) (hR : R ≤ 8) (c : Nat → Nat) (M : Nat) (hM : M ≤ 24) (a : Nat → Nat) (A : Nat → Nat → Nat) (hA : ∀ i p, c i &&& a p = A i p) (bA : ∀ i, i < M → ∀ p, A i p < 2 ^ m) (n : Nat) (hn : n < 6) (k : Int32) (e74 : ∀ i, i < M → z_mv2 (h 74 (24 * n + i)) k = nI (c i)) (e81 : ∀ p, p ≤ V → h 81 p = nI (a p)) (e82 : ∀ x, x < 2 ^ m → h 82 x = D x) (e83 : ∀ x, x < 2 ^ m → h 83 x = nI (q_pop x)) (C1 : ∀ i r p, i < M → r + 1 ≤ R → p ≤ V → mt h i (r + 1) p → mt h i r (N p 0)) (C2 : ∀ i r p, i < M → r ≤ R → p ≤ V → mt h i r p → ∀ y, y &&& A i p = y → mt h (i + 1) r (N p y)) (eT : ∀ i r p, i < M → r ≤ R → p ≤ V → mt h i r p → h 78 (1809 * i + 201 * r + p) = nI (q_TT 16 N A (M - i) i r p)) (eZ : ∀ j, j < 1809 → h 78 (1809 * M + j) = 0) (d : Int32) (i : Nat) (hi : i < M) (Q : Pst) : ∀ (r p cnt : Nat) (X : Hp), r ≤ R → p ≤ V → JW [(63, 35), (63, 36), (63, 37), (79, 999), (80, 999)] h X → X 80 i = nI cnt → mt h i r p → (∀ X1 : Hp, JW [(63, 35), (63, 36), (63, 37), (79, 999), (80, 999)] h X1 → X1 80 i = nI (cnt + (q_rst 16 N (q_TT 16 N A (M - (i + 1)) (i + 1)) (A i) r p).2.2) → X1 63 35 = nI (q_bsx (q_wr 16 N ((q_TT 16 N A (M - (i + 1)) (i + 1)) (q_rst 16 N (q_TT 16 N A (M - (i + 1)) (i + 1)) (A i) r p).1) (q_rst 16 N (q_TT 16 N A (M - (i + 1)) (i + 1)) (A i) r p).2.1) (A i (q_rst 16 N (q_TT 16 N A (M - (i + 1)) (i + 1)) (A i) r p).2.1)) → (∀ j, j < i → X1 79 j = X 79 j ∧ X1 80 j = X 80 j) → X1 63 36 = X 63 36 → mt h i (q_rst 16 N (q_TT 16 N A (M - (i + 1)) (i + 1)) (A i) r p).1 (q_rst 16 N (q_TT 16 N A (M - (i + 1)) (i + 1)) (A i) r p).2.1 → EvQ mi_X10_fills 328 [some (.ref 63), some (.int (nI n)), some (.int k), some (.int d), some (.int (nI R)), some (.int (nI M)), some (.int (nI (q_rst 16 N (q_TT 16 N A (M - (i + 1)) (i + 1)) (A i) r p).2.1)), some (.int (nI (q_rst 16 N (q_TT 16 N A (M - (i + 1)) (i + 1)) (A i) r p).1)), some (.int (nI i)), some (.int (nI (c i))), none, none] [] (G0 L b) X1 0 0 Q) → EvQ mi_X10_fills 267 [some (.ref 63), some (.int (nI n)), some (.int k), some (.int d), some (.int (nI R)), some (.int (nI M)), some (.int (nI p)), some (.int (nI r)), some (.int (nI i)), some (.int (nI (c i))), none, none] [] (G0 L b) X 0 0 Q := by
  have p12 : 2 ^ m ≤ 4096 := (Nat.pow_le_pow_right (n := 2) (by decide) hm0 : 2 ^ m ≤ 2 ^ 12)
  have bT : ∀ r q, (q_TT 16 N A (M - (i + 1)) (i + 1)) r q ≤ 5000 := fun r q => by have := q_TT_le (K := 16) (N := N) (A := A) (M - (i + 1)) (i + 1) r q; omega
  have eN : ∀ r p, r ≤ R → p ≤ V → mt h i r p → ∀ y, y &&& A i p = y → h 78 (1809 * (i + 1) + 201 * r + (N p y)) = nI ((q_TT 16 N A (M - (i + 1)) (i + 1)) r (N p y)) := fun r p hr hp hmt y hy => mTB.nx (P := fun _ _ _ => True) (fun i r p a1 a2 a3 _ a5 => eT i r p a1 a2 a3 a5) eZ hi hr hR (hNV p y) hV trivial (C2 i r p hi hr hp hmt y hy)
  intro r
  induction r with
  | zero =>
    intro p cnt X hr hp hX e80 hmt kk
    have gT : ∀ r, r ≤ R → mt h i r p → X 78 (1809 * i + 201 * r + p) = nI (q_nx 16 N (q_TT 16 N A (M - (i + 1)) (i + 1)) (A i) r p) := fun r hr hm => by
      rw [hX.2 78 _ rfl, eT i r p hi hr hp hm, tt_u 16 N A hi]
    have bl : (q_bsx (q_wr 16 N ((q_TT 16 N A (M - (i + 1)) (i + 1)) 0) p) (A i p)) < 4096 := Nat.lt_of_le_of_lt (q_bst_sub _ _ _).2 (Nat.lt_of_lt_of_le (bA i hi p) p12)
    have hX1 : JW [(63, 35), (63, 36), (63, 37), (79, 999), (80, 999)] h (ev_set X 63 35 (nI (q_bsx (q_wr 16 N ((q_TT 16 N A (M - (i + 1)) (i + 1)) 0) p) (A i p)))) := hX.set rfl (B35 bl)
    have bS : (q_vS 16 N ((q_TT 16 N A (M - (i + 1)) (i + 1)) 0) p (A i p)) ≤ 16 * 12 + 5000 := q_wr_le (bT 0) _
    have bN : q_nx 16 N (q_TT 16 N A (M - (i + 1)) (i + 1)) (A i) 0 p ≤ 16 * 12 + 5000 := q_nx_le bT _ _
    refine ev_aload_n rfl rfl rfl ?_
    refine ev_iload rfl rfl rfl ?_
    refine ev_iload rfl rfl rfl ?_
    refine ev_iload rfl rfl rfl ?_
    refine ev_iload rfl rfl rfl ?_
    refine ev_V4D rfl rfl lk_X10_311 vt_X10_bestSound rfl rfl rfl rfl rfl (EvD.to (c_bestSound L b X m hm0 D N (fun p y hy => by rw [zth_congr (hX.2 63 2 rfl) (hX.2 63 3 rfl)]; exact hN p y hy) (fun p y => Nat.le_trans (hNV p y) hV) (c i) (a p) (A i p) (hA _ _) (bA i (by omega) _) i (by omega) 0 (by omega) p (by omega) ((hX.2 81 _ rfl).trans (e81 _ (by omega))) (fun x hx => (hX.2 82 _ rfl).trans (e82 x hx)) (fun x hx => (hX.2 83 _ rfl).trans (e83 x hx)) ((q_TT 16 N A (M - (i + 1)) (i + 1)) 0) (fun q => bT 0 q) (fun y hy => (hX.2 78 _ rfl).trans (eN 0 p (by omega) (by omega) hmt y hy))) (show _ = nI (q_vS 16 N ((q_TT 16 N A (M - (i + 1)) (i + 1)) 0) p (A i p)) from rfl) rfl) ?_
    refine ev_aload_n rfl rfl rfl ?_
    refine ev_getR rfl rfl fl_X10_67 rfl rfl rfl rfl ?_
    refine ev_aload_n rfl rfl rfl ?_
    refine ev_iload rfl rfl rfl ?_
    refine ev_iload rfl rfl rfl ?_
    refine ev_iload rfl rfl rfl ?_
    refine ev_V3D rfl rfl lk_X10_293 vt_X10_spot rfl rfl rfl rfl rfl (c_spotE L b _ i 0 p) ?_
    refine ev_iadV (j := (1809 * i + 201 * 0 + p)) (v := nI (q_nx 16 N (q_TT 16 N A (M - (i + 1)) (i + 1)) (A i) 0 p)) rfl rfl rfl (vp_in_nI (by omega) (by decide)) (nI_clamp (by omega)) ((ev_rd2 (by decide)).trans (gT 0 hr hmt)) ?_
    refine ev_icmp_eq rfl rfl (fun c_294 => ?_) (fun z_ => absurd (show nI (q_vS 16 N ((q_TT 16 N A (M - (i + 1)) (i + 1)) 0) p (A i p)) = nI (q_nx 16 N (q_TT 16 N A (M - (i + 1)) (i + 1)) (A i) 0 p) from rfl) z_)
    exact kk _ hX1 ((ev_rd2 (by decide)).trans e80) (ev_rd1 _ _ _ _) (fun j hj => ⟨ev_rd2 (by decide), ev_rd2 (by decide)⟩) (ev_rd3 (by decide)) hmt
  | succ r ih =>
    intro p cnt X hr hp hX e80 hmt kk
    have gT : ∀ r, r ≤ R → mt h i r p → X 78 (1809 * i + 201 * r + p) = nI (q_nx 16 N (q_TT 16 N A (M - (i + 1)) (i + 1)) (A i) r p) := fun r hr hm => by
      rw [hX.2 78 _ rfl, eT i r p hi hr hp hm, tt_u 16 N A hi]
    have bl : (q_bsx (q_wr 16 N ((q_TT 16 N A (M - (i + 1)) (i + 1)) (r + 1)) p) (A i p)) < 4096 := Nat.lt_of_le_of_lt (q_bst_sub _ _ _).2 (Nat.lt_of_lt_of_le (bA i hi p) p12)
    have hX1 : JW [(63, 35), (63, 36), (63, 37), (79, 999), (80, 999)] h (ev_set X 63 35 (nI (q_bsx (q_wr 16 N ((q_TT 16 N A (M - (i + 1)) (i + 1)) (r + 1)) p) (A i p)))) := hX.set rfl (B35 bl)
    have bS : (q_vS 16 N ((q_TT 16 N A (M - (i + 1)) (i + 1)) (r + 1)) p (A i p)) ≤ 16 * 12 + 5000 := q_wr_le (bT (r + 1)) _
    have bN : q_nx 16 N (q_TT 16 N A (M - (i + 1)) (i + 1)) (A i) (r + 1) p ≤ 16 * 12 + 5000 := q_nx_le bT _ _
    refine ev_aload_n rfl rfl rfl ?_
    refine ev_iload rfl rfl rfl ?_
    refine ev_iload rfl rfl rfl ?_
    refine ev_iload rfl rfl rfl ?_
    refine ev_iload rfl rfl rfl ?_
    refine ev_V4D rfl rfl lk_X10_311 vt_X10_bestSound rfl rfl rfl rfl rfl (EvD.to (c_bestSound L b X m hm0 D N (fun p y hy => by rw [zth_congr (hX.2 63 2 rfl) (hX.2 63 3 rfl)]; exact hN p y hy) (fun p y => Nat.le_trans (hNV p y) hV) (c i) (a p) (A i p) (hA _ _) (bA i (by omega) _) i (by omega) (r + 1) (by omega) p (by omega) ((hX.2 81 _ rfl).trans (e81 _ (by omega))) (fun x hx => (hX.2 82 _ rfl).trans (e82 x hx)) (fun x hx => (hX.2 83 _ rfl).trans (e83 x hx)) ((q_TT 16 N A (M - (i + 1)) (i + 1)) (r + 1)) (fun q => bT (r + 1) q) (fun y hy => (hX.2 78 _ rfl).trans (eN (r + 1) p (by omega) (by omega) hmt y hy))) (show _ = nI (q_vS 16 N ((q_TT 16 N A (M - (i + 1)) (i + 1)) (r + 1)) p (A i p)) from rfl) rfl) ?_
    refine ev_aload_n rfl rfl rfl ?_
    refine ev_getR rfl rfl fl_X10_67 rfl rfl rfl rfl ?_
    refine ev_aload_n rfl rfl rfl ?_
    refine ev_iload rfl rfl rfl ?_
    refine ev_iload rfl rfl rfl ?_
    refine ev_iload rfl rfl rfl ?_
    refine ev_V3D rfl rfl lk_X10_293 vt_X10_spot rfl rfl rfl rfl rfl (c_spotE L b _ i (r + 1) p) ?_
    refine ev_iadV (j := (1809 * i + 201 * (r + 1) + p)) (v := nI (q_nx 16 N (q_TT 16 N A (M - (i + 1)) (i + 1)) (A i) (r + 1) p)) rfl rfl rfl (vp_in_nI (by omega) (by decide)) (nI_clamp (by omega)) ((ev_rd2 (by decide)).trans (gT (r + 1) hr hmt)) ?_
    try simp (disch := decide) only [ev_rd2, e80]
    refine ev_icmp_eq rfl rfl (fun c_294 => ?_) (fun c_294 => ?_)
    · have er : (q_rst 16 N (q_TT 16 N A (M - (i + 1)) (i + 1)) (A i) (r + 1) p) = (r + 1, p, 0) := if_neg (fun z => by
        have y := (nI_eq (by omega) (by omega)).mp c_294
        omega)
      rw [er] at kk
      exact kk _ hX1 ((ev_rd2 (by decide)).trans e80) (ev_rd1 _ _ _ _) (fun j hj => ⟨ev_rd2 (by decide), ev_rd2 (by decide)⟩) (ev_rd3 (by decide)) hmt
    · refine ev_aload_n rfl rfl rfl ?_
      refine ev_iload rfl rfl rfl ?_
      refine ev_aload_n rfl rfl rfl ?_
      refine ev_getR rfl rfl fl_X10_79 rfl rfl rfl rfl ?_
      refine ev_iconst (v := 0) rfl rfl (by decide) ?_
      refine ev_iadV (j := 0) (v := D 0) rfl rfl rfl (by unfold vp_in; decide) (by decide) ((hX1.2 82 0 rfl).trans (e82 0 (Nat.two_pow_pos m))) ?_
      try simp (disch := decide) only [ev_rd2, e80]
      refine ev_V2D rfl rfl lk_X10_297 vt_X10_then rfl rfl rfl rfl rfl (EvD.to (c_mthen L b _ (nI p) (D 0)) (show _ = nI (N p 0) from by rw [zth_congr (hX1.2 63 2 rfl) (hX1.2 63 3 rfl)]; exact (hN p 0 (Nat.two_pow_pos m)).symm) rfl) ?_
      refine ev_istore rfl rfl rfl rfl ?_
      dsimp only [List.set]
      refine ev_iincL (y := -1) (v := nI r) rfl rfl rfl (by decide) rfl rfl (nI_d1 r) ?_
      dsimp only [List.set]
      refine ev_aload_n rfl rfl rfl ?_
      refine ev_getR rfl rfl fl_X10_73 rfl rfl rfl rfl ?_
      refine ev_iload rfl rfl rfl ?_
      refine ev_dup2 rfl rfl rfl rfl ?_
      refine ev_iald rfl rfl rfl (vp_in_nI (by omega) (by decide)) (nI_clamp (by omega)) ?_
      try simp (disch := decide) only [ev_rd2, e80]
      refine ev_iconst (v := 1) rfl rfl (by decide) ?_
      refine ev_iaddV (v := nI (cnt + 1)) (nI_1 cnt).symm rfl rfl ?_
      refine ev_iast rfl rfl rfl rfl (vp_in_nI (by omega) (by decide)) (nI_clamp (by omega)) ?_
      refine ev_goto rfl rfl ?_
      have cl : (q_vS 16 N ((q_TT 16 N A (M - (i + 1)) (i + 1)) (r + 1)) p (A i p)) < q_nx 16 N (q_TT 16 N A (M - (i + 1)) (i + 1)) (A i) (r + 1) p := by
        have y : ¬ (q_vS 16 N ((q_TT 16 N A (M - (i + 1)) (i + 1)) (r + 1)) p (A i p)) = q_nx 16 N (q_TT 16 N A (M - (i + 1)) (i + 1)) (A i) (r + 1) p := fun z => c_294 (congrArg nI z)
        have z : (q_vS 16 N ((q_TT 16 N A (M - (i + 1)) (i + 1)) (r + 1)) p (A i p)) ≤ q_nx 16 N (q_TT 16 N A (M - (i + 1)) (i + 1)) (A i) (r + 1) p := Nat.le_max_left _ _
        omega
      have er : (q_rst 16 N (q_TT 16 N A (M - (i + 1)) (i + 1)) (A i) (r + 1) p) = ((q_rst 16 N (q_TT 16 N A (M - (i + 1)) (i + 1)) (A i) r (N p 0)).1, (q_rst 16 N (q_TT 16 N A (M - (i + 1)) (i + 1)) (A i) r (N p 0)).2.1, (q_rst 16 N (q_TT 16 N A (M - (i + 1)) (i + 1)) (A i) r (N p 0)).2.2 + 1) := if_pos cl
      rw [er] at kk
      refine ih (N p 0) (cnt + 1) (ev_set (ev_set X 63 35 (nI (q_bsx (q_wr 16 N ((q_TT 16 N A (M - (i + 1)) (i + 1)) (r + 1)) p) (A i p)))) 80 i (nI (cnt + 1))) (by omega) (hNV p 0) (hX1.set rfl (B.any _)) (ev_rd1 _ _ _ _) (C1 i r p hi hr hp hmt) (fun X2 hX2 f80 f35 fj f36 fm => ?_)
      refine kk X2 hX2 (by rw [f80]; congr 1; dsimp only; omega) f35 (fun j hj => ?_) (f36.trans ((ev_rd2 (by decide)).trans (ev_rd3 (by decide)))) fm
      rw [(fj j hj).1, (fj j hj).2, ev_rd2 (by decide), ev_rd2 (by decide), ev_rd3 (by omega), ev_rd2 (by decide)]
      exact ⟨rfl, rfl⟩

set_option maxRecDepth 100000 in
set_option maxHeartbeats 4000000 in
theorem l_m238 (L : Nat) (b : Bool) (h : Hp) (V : Nat) (hV : V ≤ 200) (eV : h 63 3 = nI V) (m : Nat) (hm0 : m ≤ 12) (D : Nat → Int32) (N : Nat → Nat → Nat) (hN : ∀ p y, y < 2 ^ m → nI (N p y) = zth h (nI p) (D y)) (hNV : ∀ p y, N p y ≤ V) (R : Nat) (hR : R ≤ 8) (c : Nat → Nat) (M : Nat) (hM : M ≤ 24) (a : Nat → Nat) (A : Nat → Nat → Nat) (hA : ∀ i p, c i &&& a p = A i p) (bA : ∀ i, i < M → ∀ p, A i p < 2 ^ m) (n : Nat) (hn : n < 6) (k : Int32) (e74 : ∀ i, i < M → z_mv2 (h 74 (24 * n + i)) k = nI (c i)) (e81 : ∀ p, p ≤ V → h 81 p = nI (a p)) (e82 : ∀ x, x < 2 ^ m → h 82 x = D x) (e83 : ∀ x, x < 2 ^ m → h 83 x = nI (q_pop x)) (C1 : ∀ i r p, i < M → r + 1 ≤ R → p ≤ V → mt h i (r + 1) p → mt h i r (N p 0)) (C2 : ∀ i r p, i < M → r ≤ R → p ≤ V → mt h i r p → ∀ y, y &&& A i p = y → mt h (i + 1) r (N p y)) (eT : ∀ i r p, i < M → r ≤ R → p ≤ V → mt h i r p → h 78 (1809 * i + 201 * r + p) = nI (q_TT 16 N A (M - i) i r p)) (eZ : ∀ j, j < 1809 → h 78 (1809 * M + j) = 0) (p0 : Nat) (hp0 : p0 ≤ V) (e20 : h 63 0 = nI p0) (C0 : mt h 0 R p0) (d : Int32) : ∀ (t i : Nat) (F : Hp), i + t = M → JW [(63, 35), (63, 36), (63, 37), (79, 999), (80, 999)] h F → F 63 36 = nI (q_fo 16 N A M R p0 i).2.2 → (∀ j, j < i → F 79 j = nI (q_fsd 16 N A M R p0 j) ∧ F 80 j = nI (q_fah 16 N A M R p0 j)) → (i < M → mt h i (q_fo 16 N A M R p0 i).1 (q_fo 16 N A M R p0 i).2.1) → EvQ mi_X10_fills 238 [some (.ref 63), some (.int (nI n)), some (.int k), some (.int d), some (.int (nI R)), some (.int (nI M)), some (.int (nI (q_fo 16 N A M R p0 i).2.1)), some (.int (nI (q_fo 16 N A M R p0 i).1)), some (.int (nI i)), none, none, none] [] (G0 L b) F 0 0 (QK (fun z => z 63 36 = nI (q_fo 16 N A M R p0 M).2.2 ∧ z 63 37 = nI (q_fo 16 N A M R p0 M).2.1 ∧ ∀ j, j < M → z 79 j = nI (q_fsd 16 N A M R p0 j) ∧ z 80 j = nI (q_fah 16 N A M R p0 j)) [(63, 35), (63, 36), (63, 37), (79, 999), (80, 999)] (G0 L b) h) := by
  have p12 : 2 ^ m ≤ 4096 := (Nat.pow_le_pow_right (n := 2) (by decide) hm0 : 2 ^ m ≤ 2 ^ 12)
  intro t
  induction t with
  | zero =>
    intro i F hi hF e36 es hmt
    have hi2 : i = M := by omega
    subst hi2
    refine ev_iload rfl rfl rfl ?_
    refine ev_iload rfl rfl rfl ?_
    refine ev_icmp_ge rfl rfl (fun c_242 => ?_) (fun z_ => absurd (Int32.le_refl _) z_)
    refine ev_aload_n rfl rfl rfl ?_
    refine ev_iload rfl rfl rfl ?_
    refine ev_putI rfl rfl fl_X10_318 rfl rfl rfl rfl rfl ?_
    exact ev_vret rfl rfl trivial (⟨rfl, rfl, hF.set rfl (B.any _), (ev_rd3 (by decide)).trans e36, ev_rd1 _ _ _ _, fun j hj => ⟨(ev_rd2 (by decide)).trans (es j hj).1, (ev_rd2 (by decide)).trans (es j hj).2⟩⟩)
  | succ t ih =>
    intro i F hi hF e36 es hmt
    refine ev_iload rfl rfl rfl ?_
    refine ev_iload rfl rfl rfl ?_
    refine ev_icmp_ge rfl rfl (fun z_ => absurd z_ (nI_ge (by omega) (by omega))) (fun c_242 => ?_)
    refine ev_aload_n rfl rfl rfl ?_
    refine ev_aload_n rfl rfl rfl ?_
    refine ev_iload_n rfl rfl rfl ?_
    refine ev_iload rfl rfl rfl ?_
    refine ev_V2D rfl rfl lk_X10_263 vt_X10_chordAt rfl rfl rfl rfl rfl (EvD.to (c_mchordAt L b F n hn i (by omega)) (hF.2 74 _ rfl) rfl) ?_
    refine ev_iload_n rfl rfl rfl ?_
    refine ev_V2D rfl rfl lk_X10_276 vt_X10_moved rfl rfl rfl rfl rfl (EvD.to (c_mmoved L b F _ k) (e74 i (by omega)) rfl) ?_
    refine ev_istore rfl rfl rfl rfl ?_
    dsimp only [List.set]
    refine ev_aload_n rfl rfl rfl ?_
    refine ev_getR rfl rfl fl_X10_73 rfl rfl rfl rfl ?_
    refine ev_iload rfl rfl rfl ?_
    refine ev_iconst (v := 0) rfl rfl (by decide) ?_
    refine ev_iast rfl rfl rfl rfl (vp_in_nI (by omega) (by decide)) (nI_clamp (by omega)) ?_
    refine l_m267 L b h V hV eV m hm0 D N hN hNV R hR c M hM a A hA bA n hn k e74 e81 e82 e83 C1 C2 eT eZ d i (by omega) _ (q_fo 16 N A M R p0 i).1 (q_fo 16 N A M R p0 i).2.1 0 (ev_set F 80 i 0) (q_fo_r _ _ _ _ _ _ _) (q_fo_p hNV hp0 _) (hF.set rfl (B.any _)) (ev_rd1 _ _ _ _) (hmt (by omega)) (fun X1 hX1 f80 f35 fj f36 fm => ?_)
    have rl : (q_rst 16 N (q_TT 16 N A (M - (i + 1)) (i + 1)) (A i) (q_fo 16 N A M R p0 i).1 (q_fo 16 N A M R p0 i).2.1).1 ≤ R := q_fo_r 16 N A M R p0 (i + 1)
    have pl : (q_rst 16 N (q_TT 16 N A (M - (i + 1)) (i + 1)) (A i) (q_fo 16 N A M R p0 i).1 (q_fo 16 N A M R p0 i).2.1).2.1 ≤ V := q_rst_p hNV _ _ (q_fo_p hNV hp0 i)
    have fl : (q_fsd 16 N A M R p0 i) < 2 ^ m := Nat.lt_of_le_of_lt (q_bst_sub _ _ _).2 (bA i (by omega) _)
    have f35 : X1 63 35 = nI (q_fsd 16 N A M R p0 i) := f35
    have f36 : X1 63 36 = nI (q_fo 16 N A M R p0 i).2.2 := f36.trans ((ev_rd2 (by decide)).trans e36)
    have hY : JW [(63, 35), (63, 36), (63, 37), (79, 999), (80, 999)] h (ev_set (ev_set X1 79 i (nI (q_fsd 16 N A M R p0 i))) 63 36 (nI ((q_fo 16 N A M R p0 i).2.2 + q_pop (q_fsd 16 N A M R p0 i)))) := (hX1.set rfl (B.any _)).set rfl (B.any _)
    refine ev_aload_n rfl rfl rfl ?_
    refine ev_getR rfl rfl fl_X10_70 rfl rfl rfl rfl ?_
    refine ev_iload rfl rfl rfl ?_
    refine ev_aload_n rfl rfl rfl ?_
    refine ev_getV (v := nI (q_fsd 16 N A M R p0 i)) rfl rfl fl_X10_301 rfl rfl rfl f35 ?_
    refine ev_iast rfl rfl rfl rfl (vp_in_nI (by omega) (by decide)) (nI_clamp (by omega)) ?_
    refine ev_aload_n rfl rfl rfl ?_
    refine ev_dup rfl rfl rfl ?_
    refine ev_getV (v := nI (q_fo 16 N A M R p0 i).2.2) rfl rfl fl_X10_315 rfl rfl rfl ((ev_rd2 (by decide)).trans f36) ?_
    refine ev_aload_n rfl rfl rfl ?_
    refine ev_getR rfl rfl fl_X10_82 rfl rfl rfl rfl ?_
    refine ev_aload_n rfl rfl rfl ?_
    refine ev_getV (v := nI (q_fsd 16 N A M R p0 i)) rfl rfl fl_X10_301 rfl rfl rfl ((ev_rd2 (by decide)).trans f35) ?_
    refine ev_iadV (j := (q_fsd 16 N A M R p0 i)) (v := nI (q_pop (q_fsd 16 N A M R p0 i))) rfl rfl rfl (vp_in_nI (by omega) (by decide)) (nI_clamp (by omega)) ((ev_rd2 (by decide)).trans ((hX1.2 83 _ rfl).trans (e83 _ fl))) ?_
    refine ev_iaddV (v := nI ((q_fo 16 N A M R p0 i).2.2 + q_pop (q_fsd 16 N A M R p0 i))) (nI_ad _ _).symm rfl rfl ?_
    refine ev_putI rfl rfl fl_X10_315 rfl rfl rfl rfl rfl ?_
    refine ev_aload_n rfl rfl rfl ?_
    refine ev_iload rfl rfl rfl ?_
    refine ev_aload_n rfl rfl rfl ?_
    refine ev_getR rfl rfl fl_X10_79 rfl rfl rfl rfl ?_
    refine ev_aload_n rfl rfl rfl ?_
    refine ev_getV (v := nI (q_fsd 16 N A M R p0 i)) rfl rfl fl_X10_301 rfl rfl rfl ((ev_rd3 (by decide)).trans ((ev_rd2 (by decide)).trans f35)) ?_
    refine ev_iadV (j := (q_fsd 16 N A M R p0 i)) (v := D (q_fsd 16 N A M R p0 i)) rfl rfl rfl (vp_in_nI (by omega) (by decide)) (nI_clamp (by omega)) ((ev_rd2 (by decide)).trans ((ev_rd2 (by decide)).trans ((hX1.2 82 _ rfl).trans (e82 _ fl)))) ?_
    refine ev_V2D rfl rfl lk_X10_297 vt_X10_then rfl rfl rfl rfl rfl (EvD.to (c_mthen L b _ (nI (q_rst 16 N (q_TT 16 N A (M - (i + 1)) (i + 1)) (A i) (q_fo 16 N A M R p0 i).1 (q_fo 16 N A M R p0 i).2.1).2.1) (D (q_fsd 16 N A M R p0 i))) (show _ = nI (N (q_rst 16 N (q_TT 16 N A (M - (i + 1)) (i + 1)) (A i) (q_fo 16 N A M R p0 i).1 (q_fo 16 N A M R p0 i).2.1).2.1 (q_fsd 16 N A M R p0 i)) from by rw [zth_congr (hY.2 63 2 rfl) (hY.2 63 3 rfl)]; exact (hN _ _ fl).symm) rfl) ?_
    refine ev_istore rfl rfl rfl rfl ?_
    dsimp only [List.set]
    refine ev_iinc (y := 1) rfl rfl rfl (by decide) rfl rfl ?_
    dsimp only [List.set]
    refine ev_goto rfl rfl ?_
    rw [nI_1 i]
    refine EvQ.drop 9 (ih (i + 1) (ev_set (ev_set X1 79 i (nI (q_fsd 16 N A M R p0 i))) 63 36 (nI ((q_fo 16 N A M R p0 i).2.2 + q_pop (q_fsd 16 N A M R p0 i)))) (by omega) hY (ev_rd1 _ _ _ _) (fun j hj => ?_) (fun hi2 => ?_))
    · refine ⟨?_, ?_⟩
      · rw [ev_rd2 (by decide), ev_sj]
        by_cases e : j = i
        · subst e
          rw [if_pos rfl]
        · rw [if_neg e, (fj j (by omega)).1, ev_rd2 (by decide)]
          exact (es j (by omega)).1
      · rw [ev_rd2 (by decide), ev_rd2 (by decide)]
        by_cases e : j = i
        · subst e
          rw [f80, Nat.zero_add]
          rfl
        · rw [(fj j (by omega)).2, ev_rd3 e]
          exact (es j (by omega)).2
    · exact C2 i (q_rst 16 N (q_TT 16 N A (M - (i + 1)) (i + 1)) (A i) (q_fo 16 N A M R p0 i).1 (q_fo 16 N A M R p0 i).2.1).1 (q_rst 16 N (q_TT 16 N A (M - (i + 1)) (i + 1)) (A i) (q_fo 16 N A M R p0 i).1 (q_fo 16 N A M R p0 i).2.1).2.1 (by omega) rl pl fm (q_fsd 16 N A M R p0 i) (q_bst_sub _ _ _).1
