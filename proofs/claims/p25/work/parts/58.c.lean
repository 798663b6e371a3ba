theorem nI_s1 (t : Nat) : nI (t + 1) - 1 = nI t := by
  rw [← nI_1, Int32.add_sub_cancel]
theorem nI_d1 (t : Nat) : nI (t + 1) + (-1) = nI t := by
  rw [← Int32.sub_eq_add_neg, nI_s1]
theorem nI_e1 (t : Nat) : nI t + (-1) = nI t - 1 := (Int32.sub_eq_add_neg _ _).symm
theorem nI_np0 {t : Nat} (ht : t + 1 < 2 ^ 31) : ¬ nI (t + 1) ≤ 0 := fun z => by
  have y := w_le z
  have e0 : (0 : Int32).toInt = 0 := by decide
  rw [nI_toInt ht] at y
  omega
theorem sbm_first {x : Nat} : ∀ K, sbm x K = 0 → ∃ n, n ≤ K ∧ sbm x n = 0 ∧ ∀ j, j < n → sbm x j ≠ 0
  | 0, h => ⟨0, Nat.le_refl _, h, fun j hj => absurd hj (Nat.not_lt_zero _)⟩
  | K + 1, h => by
    by_cases e : sbm x K = 0
    · obtain ⟨n, h1, h2, h3⟩ := sbm_first K e
      exact ⟨n, by omega, h2, h3⟩
    · exact ⟨K + 1, Nat.le_refl _, h, fun j hj z => e (sbm_z (by omega) z)⟩
/-- best and most of bestOption(), c being what it has found -/
def bI (n c : Nat) : Int32 := if c = 0 then nI n else nI (c - 1)
def bM (f : Nat → Nat) (x c : Nat) : Int32 := if c = 0 then -1 else nI (f (sbm x (c - 1)))
theorem bM_le {f : Nat → Nat} {x c y : Nat} (hf : ∀ z, f z < 2 ^ 30) : nI (f y) ≤ bM f x c ↔ ¬ (c = 0 ∨ f (sbm x (c - 1)) < f y) := by
  unfold bM
  by_cases e : c = 0
  · rw [if_pos e]
    constructor
    · intro z
      exfalso
      have y2 := w_le z
      have e1 : (-1 : Int32).toInt = -1 := by decide
      rw [nI_toInt (by have := hf y; omega)] at y2
      omega
    · intro z; exact absurd (Or.inl e) z
  · rw [if_neg e, nI_le2 (by have := hf y; omega) (by have := hf (sbm x (c - 1)); omega)]
    omega
theorem JW.lo {W : List (Nat × Nat)} {h0 h : Hp} (hJ : JW W h0 h) (w7 : wm W 37 7 = true) (w40 : ∀ j, wm W 40 j = true) (w41 : ∀ j, wm W 41 j = true) (m x : Nat) {k : Nat} (hk : k ≤ 32) : JW W h0 (k_lo h m x k) := by
  refine ⟨fun i j => ?_, fun i j q => ?_⟩
  · by_cases a : i = 37 ∧ j = 7
    · obtain ⟨rfl, rfl⟩ := a
      rw [k_lo_7]
      exact nI_B (u := 32) (by omega) (by omega)
    · by_cases b : i = 40
      · subst b; exact B.any _
      · by_cases c : i = 41
        · subst c; exact B.any _
        · unfold k_lo
          rw [if_neg a, if_neg (fun q => b q.1), if_neg (fun q => c q.1)]
          exact hJ.1 i j
  · have a : ¬ (i = 37 ∧ j = 7) := fun z => by rw [z.1, z.2, w7] at q; cases q
    have b : i ≠ 40 := fun z => by rw [z, w40] at q; cases q
    have c : i ≠ 41 := fun z => by rw [z, w41] at q; cases q
    unfold k_lo
    rw [if_neg a, if_neg (fun q => b q.1), if_neg (fun q => c q.1)]
    exact hJ.2 i j q
theorem JW.nr {W : List (Nat × Nat)} {h0 h : Hp} (hJ : JW W h0 h) (hw : ∀ j, wm W 38 j = true) (m : Nat) (d : Int32) (P : Nat) : JW W h0 (k_nr h m d P) := by
  refine ⟨fun i j => ?_, fun i j q => ?_⟩
  · by_cases e : i = 38
    · subst e; exact B.any _
    · rw [k_nr_ne e]; exact hJ.1 i j
  · by_cases e : i = 38
    · subst e; rw [hw j] at q; cases q
    · rw [k_nr_ne e]; exact hJ.2 i j q

set_option maxRecDepth 100000 in
set_option maxHeartbeats 4000000 in
theorem l_bo (L : Nat) (h : Hp) (V : Nat) (hV : V ≤ 200) (D : Nat → Int32) (N : Nat → Nat → Nat) (hN : ∀ p y, nI (N p y) = z_min (h 2 3) (z_max 0 (nI p + 2 * h 2 2 - D y))) (hNV : ∀ p y, N p y ≤ V) (n : Nat) (n31 : n ≤ 31) (x : Nat) (hx : x < 4096) (e7 : h 37 7 = nI (n + 1)) (e40 : ∀ k, k ≤ n → h 40 k = nI (sbm x k)) (e41 : ∀ k, k ≤ n → h 41 k = D (sbm x k)) (ap : Nat) (i : Nat) (hi : i < 24) (p : Nat) (hp : p ≤ 200) (e38 : h 38 p = nI ap) (r : Nat) (hr : r < 9) (F : Nat → Nat) (bF : ∀ q, F q ≤ 3000) (eT : ∀ q, q ≤ V → h 95 ((((i + 1) * 201 + q) * 9) + r) = nI (F q)) : ∀ t k : Nat, k + t = n + 1 → EvQ mi_X4_bestOption 14 [some (.ref 37), some (.ref 2), some (.int (nI i)), some (.int (nI p)), some (.int (nI r)), some (.int (bI n (q_cbx (q_wr 9 N F p) x ap k))), some (.int (bM (q_wr 9 N F p) x (q_cbx (q_wr 9 N F p) x ap k))), some (.int (nI k)), none] [] (G0 L true) h 0 0 (fun v G' h' => v = some (.int (bI n (q_cbx (q_wr 9 N F p) x ap (n + 1)))) ∧ G' = G0 L true ∧ h' = h) := by
  have hf : ∀ z, q_wr 9 N F p z < 2 ^ 30 := fun z => by have := q_wr_le (K := 9) (N := N) (p := p) bF z; omega
  intro t
  induction t with
  | zero =>
    intro k hk
    have hk2 : k = n + 1 := by omega
    subst hk2
    refine ev_iload rfl rfl rfl ?_
    refine ev_aload_n rfl rfl rfl ?_
    refine ev_getI rfl rfl fl_X4_34 rfl rfl rfl ?_
    try simp only [e7]
    refine ev_icmp_ge rfl rfl (fun c_20 => ?_) (fun z_ => absurd (Int32.le_refl _) z_)
    refine ev_iload rfl rfl rfl ?_
    exact ev_iret rfl rfl rfl (⟨rfl, rfl, rfl⟩)
  | succ t ih =>
    intro k hk
    have nv := hNV p (sbm x k)
    refine ev_iload rfl rfl rfl ?_
    refine ev_aload_n rfl rfl rfl ?_
    refine ev_getI rfl rfl fl_X4_34 rfl rfl rfl ?_
    try simp only [e7]
    refine ev_icmp_ge rfl rfl (fun z_ => absurd z_ (nI_ge (by omega) (by omega))) (fun c_20 => ?_)
    refine ev_aload_n rfl rfl rfl ?_
    refine ev_iload rfl rfl rfl ?_
    refine ev_iload_n rfl rfl rfl ?_
    refine ev_V2D rfl rfl lk_X4_119 vt_X4_isOpen rfl rfl rfl rfl rfl (c_isOpen L true h k p (by omega) (by omega) (sbm x k) ap (sbm_12 hx k) (e40 k (by omega)) e38) ?_
    refine ev_if_eq rfl rfl (fun c_30 => ?_) (fun c_30 => ?_)
    · refine ev_iinc (y := 1) rfl rfl rfl (by decide) rfl rfl ?_
      dsimp only [List.set]
      refine ev_goto rfl rfl ?_
      have z_ := ih (k + 1) (by omega)
      rw [show (q_cbx (q_wr 9 N F p) x ap (k + 1)) = (q_cbx (q_wr 9 N F p) x ap k) from if_neg (fun z => by rw [if_pos z.1] at c_30; exact absurd c_30 (by decide))] at z_
      rw [nI_1 k]
      exact z_
    · refine ev_aload_n rfl rfl rfl ?_
      refine ev_aload_n rfl rfl rfl ?_
      refine ev_iload_n rfl rfl rfl ?_
      refine ev_iload_n rfl rfl rfl ?_
      refine ev_iload rfl rfl rfl ?_
      refine ev_iload rfl rfl rfl ?_
      refine ev_V5D rfl rfl lk_X4_148 vt_X4_worthOf rfl rfl rfl rfl rfl (EvD.to (c_worthOf L h i p r k hi (by omega) hr (by omega) (sbm x k) (sbm_12 hx k) (e40 k (by omega)) (D (sbm x k)) (e41 k (by omega)) (N p (sbm x k)) (by omega) (hN p (sbm x k)).symm (F (N p (sbm x k))) (eT _ nv)) (show _ = nI (q_wr 9 N F p (sbm x k)) from rfl) rfl) ?_
      refine ev_istore rfl rfl rfl rfl ?_
      dsimp only [List.set]
      refine ev_iload rfl rfl rfl ?_
      refine ev_iload rfl rfl rfl ?_
      refine ev_icmp_le rfl rfl (fun c_50 => ?_) (fun c_50 => ?_)
      · refine ev_iinc (y := 1) rfl rfl rfl (by decide) rfl rfl ?_
        dsimp only [List.set]
        refine ev_goto rfl rfl ?_
        have op : sbm x k &&& ap = sbm x k := Decidable.byContradiction (fun z => c_30 (if_neg z))
        have z_ := ih (k + 1) (by omega)
        rw [show (q_cbx (q_wr 9 N F p) x ap (k + 1)) = (q_cbx (q_wr 9 N F p) x ap k) from if_neg (fun z => (bM_le hf).mp c_50 z.2)] at z_
        rw [nI_1 k]
        exact EvQ.drop 8 z_
      · refine ev_iload rfl rfl rfl ?_
        refine ev_istore rfl rfl rfl rfl ?_
        dsimp only [List.set]
        refine ev_iload rfl rfl rfl ?_
        refine ev_istore rfl rfl rfl rfl ?_
        dsimp only [List.set]
        refine ev_iinc (y := 1) rfl rfl rfl (by decide) rfl rfl ?_
        dsimp only [List.set]
        refine ev_goto rfl rfl ?_
        have op : sbm x k &&& ap = sbm x k := Decidable.byContradiction (fun z => c_30 (if_neg z))
        have z_ := ih (k + 1) (by omega)
        rw [show (q_cbx (q_wr 9 N F p) x ap (k + 1)) = k + 1 from if_pos ⟨op, Decidable.byContradiction (fun z => c_50 ((bM_le hf).mpr z))⟩] at z_
        rw [nI_1 k]
        exact EvQ.drop 8 z_

set_option maxRecDepth 100000 in
set_option maxHeartbeats 4000000 in
theorem c_bestOption (L : Nat) (h : Hp) (V : Nat) (hV : V ≤ 200) (D : Nat → Int32) (N : Nat → Nat → Nat) (hN : ∀ p y, nI (N p y) = z_min (h 2 3) (z_max 0 (nI p + 2 * h 2 2 - D y))) (hNV : ∀ p y, N p y ≤ V) (n : Nat) (n31 : n ≤ 31) (x : Nat) (hx : x < 4096) (e7 : h 37 7 = nI (n + 1)) (e40 : ∀ k, k ≤ n → h 40 k = nI (sbm x k)) (e41 : ∀ k, k ≤ n → h 41 k = D (sbm x k)) (ap : Nat) (i : Nat) (hi : i < 24) (p : Nat) (hp : p ≤ 200) (e38 : h 38 p = nI ap) (r : Nat) (hr : r < 9) (F : Nat → Nat) (bF : ∀ q, F q ≤ 3000) (eT : ∀ q, q ≤ V → h 95 ((((i + 1) * 201 + q) * 9) + r) = nI (F q)) (h0 : sbm x n = 0)  : EvD mi_X4_bestOption [.ref 37, .ref 2, .int (nI i), .int (nI p), .int (nI r)] (G0 L true) h (nI ((q_cbx (q_wr 9 N F p) x ap (n + 1)) - 1)) (h) := by
  refine EvD.of (lo := [some (.ref 37), some (.ref 2), some (.int (nI i)), some (.int (nI p)), some (.int (nI r)), none, none, none, none]) pf_X4_bestOption ok_X4_bestOption rfl rfl ?_
  refine ev_aload_n rfl rfl rfl ?_
  refine ev_getI rfl rfl fl_X4_34 rfl rfl rfl ?_
  try simp only [e7]
  refine ev_iconst (v := 1) rfl rfl (by decide) ?_
  refine ev_isub rfl rfl ?_
  rw [nI_s1]
  refine ev_istore rfl rfl rfl rfl ?_
  dsimp only [List.set]
  refine ev_iconst (v := (-1)) rfl rfl (by decide) ?_
  refine ev_istore rfl rfl rfl rfl ?_
  dsimp only [List.set]
  refine ev_iconst (v := 0) rfl rfl (by decide) ?_
  refine ev_istore rfl rfl rfl rfl ?_
  dsimp only [List.set]
  rw [show nI ((q_cbx (q_wr 9 N F p) x ap (n + 1)) - 1) = bI n (q_cbx (q_wr 9 N F p) x ap (n + 1)) from (if_neg (q_cbx_end (f := q_wr 9 N F p) (a := ap) h0).1).symm]
  exact l_bo L h V hV D N hN hNV n n31 x hx e7 e40 e41 ap i hi p hp e38 r hr F bF eT (n + 1) 0 (by omega)

set_option maxRecDepth 100000 in
set_option maxHeartbeats 4000000 in
theorem l_fw (L : Nat) (h : Hp) (V : Nat) (hV : V ≤ 200) (eV : h 2 3 = nI V) (m : Nat) (hm0 : m ≤ 12) (hm : h 4 7 = nI m) (N : Nat → Nat → Nat) (hN : ∀ p y, nI (N p y) = z_min (h 2 3) (z_max 0 (nI p + 2 * h 2 2 - cD h m y))) (hNV : ∀ p y, N p y ≤ V) (R : Nat) (hR : R ≤ 8) (c : Nat → Nat) (M : Nat) (hM : M ≤ 24) (bc : ∀ i, i < M → c i < 4096) (pc : ∀ i, i < M → sbm (c i) 31 = 0) (a : Nat → Nat) (A : Nat → Nat → Nat) (hA : ∀ i p, A i p = c i &&& a p) (e38 : ∀ p, p ≤ 200 → h 38 p = nI (a p)) (e8 : h 37 8 = cD h m 0) (eT : ∀ i, i ≤ M → ∀ r, r ≤ R → ∀ q, q ≤ V → h 95 (((i * 201 + q) * 9) + r) = nI (q_TT 9 N A (M - i) i r q)) (i : Nat) (hi : i < M) (n : Nat) (n31 : n ≤ 31) (n0 : sbm (c i) n = 0) (X : Hp) (hXJ : JW [(37, 7), (37, 11), (37, 12), (37, 13), (40, 999), (41, 999), (42, 999), (43, 999)] h X) (y7 : X 37 7 = nI (n + 1)) (y40 : ∀ k, k ≤ n → X 40 k = nI (sbm (c i) k)) (y41 : ∀ k, k ≤ n → X 41 k = cD h m (sbm (c i) k)) (Q : Pst) : ∀ r p cnt : Nat, r ≤ R → p ≤ V → EvQ mi_X4_follow 137 [some (.ref 37), some (.ref 2), some (.ref 4), some (.int (nI R)), some (.int (nI (q_rst 9 N (q_TT 9 N A (M - (i + 1)) (i + 1)) (A i) r p).2.1)), some (.int (nI (q_rst 9 N (q_TT 9 N A (M - (i + 1)) (i + 1)) (A i) r p).1)), some (.int (nI i)), some (.int (nI (q_cbx (q_wr 9 N ((q_TT 9 N A (M - (i + 1)) (i + 1)) (q_rst 9 N (q_TT 9 N A (M - (i + 1)) (i + 1)) (A i) r p).1) (q_rst 9 N (q_TT 9 N A (M - (i + 1)) (i + 1)) (A i) r p).2.1) (c i) (a (q_rst 9 N (q_TT 9 N A (M - (i + 1)) (i + 1)) (A i) r p).2.1) (n + 1) - 1)))] [] (G0 L true) (ev_set X 43 i (nI (cnt + (q_rst 9 N (q_TT 9 N A (M - (i + 1)) (i + 1)) (A i) r p).2.2))) 0 0 Q → EvQ mi_X4_follow 59 [some (.ref 37), some (.ref 2), some (.ref 4), some (.int (nI R)), some (.int (nI p)), some (.int (nI r)), some (.int (nI i)), some (.int (nI (q_cbx (q_wr 9 N ((q_TT 9 N A (M - (i + 1)) (i + 1)) r) p) (c i) (a p) (n + 1) - 1)))] [] (G0 L true) (ev_set X 43 i (nI cnt)) 0 0 Q := by
  have bT : ∀ t i r q, q_TT 9 N A t i r q ≤ 9 * 12 * t := fun t i r q => q_TT_le t i r q
  have bT : ∀ r q, (q_TT 9 N A (M - (i + 1)) (i + 1)) r q ≤ 3000 := fun r q => by have := q_TT_le (K := 9) (N := N) (A := A) (M - (i + 1)) (i + 1) r q; omega
  intro r
  induction r with
  | zero =>
    intro p cnt hr hp kk
    refine ev_iload rfl rfl rfl ?_
    refine ev_if_le rfl rfl (fun c_61 => ?_) (fun z_ => absurd (show nI 0 ≤ 0 by decide) z_)
    exact kk
  | succ r ih =>
    intro p cnt hr hp kk
    have hX : JW [(37, 7), (37, 11), (37, 12), (37, 13), (40, 999), (41, 999), (42, 999), (43, 999)] h (ev_set X 43 i (nI cnt)) := hXJ.set rfl (B.any _)
    have x7 : (ev_set X 43 i (nI cnt)) 37 7 = nI (n + 1) := (ev_rd2 (by decide)).trans y7
    have x40 : ∀ k, k ≤ n → (ev_set X 43 i (nI cnt)) 40 k = nI (sbm (c i) k) := fun k hk => (ev_rd2 (by decide)).trans (y40 k hk)
    have x41 : ∀ k, k ≤ n → (ev_set X 43 i (nI cnt)) 41 k = cD h m (sbm (c i) k) := fun k hk => (ev_rd2 (by decide)).trans (y41 k hk)
    have g23 : (ev_set X 43 i (nI cnt)) 2 3 = h 2 3 := (hX.2 2 3 rfl)
    have g22 : (ev_set X 43 i (nI cnt)) 2 2 = h 2 2 := (hX.2 2 2 rfl)
    have g7 : (ev_set X 43 i (nI cnt)) 37 7 = nI (n + 1) := x7
    have g40 : ∀ k, k ≤ n → (ev_set X 43 i (nI cnt)) 40 k = nI (sbm (c i) k) := x40
    have g41 : ∀ k, k ≤ n → (ev_set X 43 i (nI cnt)) 41 k = cD h m (sbm (c i) k) := x41
    have g38 : ∀ p, p ≤ 200 → (ev_set X 43 i (nI cnt)) 38 p = nI (a p) := fun p hp => (hX.2 38 p rfl).trans (e38 p hp)
    have g8 : (ev_set X 43 i (nI cnt)) 37 8 = cD h m 0 := (hX.2 37 8 rfl).trans e8
    have gT : ∀ r, r ≤ R → ∀ q, q ≤ V → (ev_set X 43 i (nI cnt)) 95 ((((i + 1) * 201 + q) * 9) + r) = nI ((q_TT 9 N A (M - (i + 1)) (i + 1)) r q) := fun r hr q hq => by
      have z := eT (i + 1) (by omega) r hr q hq
      exact (hX.2 95 _ rfl).trans z
    have gT0 : ∀ r, r ≤ R → ∀ q, q ≤ V → (ev_set X 43 i (nI cnt)) 95 (((i * 201 + q) * 9) + r) = nI (q_nx 9 N (q_TT 9 N A (M - (i + 1)) (i + 1)) (A i) r q) := fun r hr q hq => by
      have z := eT i (by omega) r hr q hq
      rw [show M - i = (M - (i + 1)) + 1 by omega] at z
      exact (hX.2 95 _ rfl).trans z
    have ce := q_cbx_end (f := q_wr 9 N ((q_TT 9 N A (M - (i + 1)) (i + 1)) (r + 1)) p) (a := a p) n0
    have bS : q_vS 9 N ((q_TT 9 N A (M - (i + 1)) (i + 1)) (r + 1)) p (A i p) ≤ 9 * 12 + 3000 := q_wr_le (fun q => bT (r + 1) q) _
    have bN : q_nx 9 N (q_TT 9 N A (M - (i + 1)) (i + 1)) (A i) (r + 1) p ≤ 9 * 12 + 3000 := q_nx_le bT (r + 1) p
    have ew : nI (9 * q_pop (sbm (c i) (q_cbx (q_wr 9 N ((q_TT 9 N A (M - (i + 1)) (i + 1)) (r + 1)) p) (c i) (a p) (n + 1) - 1)) + (q_TT 9 N A (M - (i + 1)) (i + 1)) (r + 1) (N p (sbm (c i) (q_cbx (q_wr 9 N ((q_TT 9 N A (M - (i + 1)) (i + 1)) (r + 1)) p) (c i) (a p) (n + 1) - 1)))) = nI (q_vS 9 N ((q_TT 9 N A (M - (i + 1)) (i + 1)) (r + 1)) p (A i p)) := by
      rw [ce.2.2, hA]
      rfl
    have nv0 := hNV p 0
    have ce1 := ce.2.1
    refine ev_iload rfl rfl rfl ?_
    refine ev_if_le rfl rfl (fun z_ => absurd z_ (nI_np0 (by omega))) (fun c_61 => ?_)
    refine ev_aload_n rfl rfl rfl ?_
    refine ev_aload_n rfl rfl rfl ?_
    refine ev_iload rfl rfl rfl ?_
    refine ev_iload rfl rfl rfl ?_
    refine ev_iload rfl rfl rfl ?_
    refine ev_iload rfl rfl rfl ?_
    refine ev_V5D rfl rfl lk_X4_148 vt_X4_worthOf rfl rfl rfl rfl rfl (EvD.to (c_worthOf L _ i p (r + 1) (q_cbx (q_wr 9 N ((q_TT 9 N A (M - (i + 1)) (i + 1)) (r + 1)) p) (c i) (a p) (n + 1) - 1) (by omega) (by omega) (by omega) (by omega) _ (sbm_12 (bc i (by omega)) _) (g40 _ (by omega)) _ (g41 _ (by omega)) (N p (sbm (c i) (q_cbx (q_wr 9 N ((q_TT 9 N A (M - (i + 1)) (i + 1)) (r + 1)) p) (c i) (a p) (n + 1) - 1))) (by have := hNV p (sbm (c i) (q_cbx (q_wr 9 N ((q_TT 9 N A (M - (i + 1)) (i + 1)) (r + 1)) p) (c i) (a p) (n + 1) - 1)); omega) (by rw [g23, g22]; exact (hN p _).symm) _ (gT (r + 1) (by omega) _ (hNV p _))) (show _ = nI (q_vS 9 N ((q_TT 9 N A (M - (i + 1)) (i + 1)) (r + 1)) p (A i p)) from ew) rfl) ?_
    refine ev_aload_n rfl rfl rfl ?_
    refine ev_getR rfl rfl fl_X4_9 rfl rfl rfl rfl ?_
    refine ev_iload rfl rfl rfl ?_
    refine ev_iload rfl rfl rfl ?_
    refine ev_S2D rfl rfl lk_X4_84 st_X4_cell rfl rfl (c_cellE _ _ i p) ?_
    refine ev_iload rfl rfl rfl ?_
    refine ev_iaddV (v := nI (((i * 201 + p) * 9) + (r + 1))) (nI_ad _ _).symm rfl rfl ?_
    refine ev_iald rfl rfl rfl (vp_in_nI (by omega) (by decide)) (nI_clamp (by omega)) ?_
    try simp only [g8, gT0 (r + 1) hr p hp, ev_rd1]
    refine ev_icmp_ge rfl rfl (fun c_92 => ?_) (fun c_92 => ?_)
    · rw [show (q_rst 9 N (q_TT 9 N A (M - (i + 1)) (i + 1)) (A i) (r + 1) p) = (r + 1, p, 0) from if_neg (fun z => absurd (w_le c_92) (by rw [nI_toInt (by omega), nI_toInt (by omega)]; omega))] at kk
      exact kk
    · refine ev_aload_n rfl rfl rfl ?_
      refine ev_iload rfl rfl rfl ?_
      refine ev_aload_n rfl rfl rfl ?_
      refine ev_getI rfl rfl fl_X4_37 rfl rfl rfl ?_
      try simp only [g8, gT0 (r + 1) hr p hp, ev_rd1]
      refine ev_V2D rfl rfl lk_X4_129 vt_X1_after rfl rfl rfl rfl rfl (EvD.to (c_after (G0 L true) _ 2 rfl rfl (nI p) (cD h m 0)) (show _ = nI (N p 0) from by rw [g23, g22]; exact (hN p 0).symm) rfl) ?_
      refine ev_istore rfl rfl rfl rfl ?_
      dsimp only [List.set]
      refine ev_iincL (y := -1) (v := nI r) rfl rfl rfl (by decide) rfl rfl (nI_d1 r) ?_
      dsimp only [List.set]
      refine ev_aload_n rfl rfl rfl ?_
      refine ev_getR rfl rfl fl_X4_43 rfl rfl rfl rfl ?_
      refine ev_iload rfl rfl rfl ?_
      refine ev_dup2 rfl rfl rfl rfl ?_
      refine ev_iald rfl rfl rfl (vp_in_nI (by omega) (by decide)) (nI_clamp (by omega)) ?_
      try simp only [g8, gT0 (r + 1) hr p hp, ev_rd1]
      refine ev_iconst (v := 1) rfl rfl (by decide) ?_
      refine ev_iadd rfl rfl ?_
      refine ev_iast rfl rfl rfl rfl (vp_in_nI (by omega) (by decide)) (nI_clamp (by omega)) ?_
      have k23 : (ev_set (ev_set X 43 i (nI cnt)) 43 i (nI cnt + 1)) 2 3 = h 2 3 := (ev_rd2 (by decide)).trans g23
      have k22 : (ev_set (ev_set X 43 i (nI cnt)) 43 i (nI cnt + 1)) 2 2 = h 2 2 := (ev_rd2 (by decide)).trans g22
      have k7 : (ev_set (ev_set X 43 i (nI cnt)) 43 i (nI cnt + 1)) 37 7 = nI (n + 1) := (ev_rd2 (by decide)).trans g7
      have k40 : ∀ k, k ≤ n → (ev_set (ev_set X 43 i (nI cnt)) 43 i (nI cnt + 1)) 40 k = nI (sbm (c i) k) := fun k hk => (ev_rd2 (by decide)).trans (g40 k hk)
      have k41 : ∀ k, k ≤ n → (ev_set (ev_set X 43 i (nI cnt)) 43 i (nI cnt + 1)) 41 k = cD h m (sbm (c i) k) := fun k hk => (ev_rd2 (by decide)).trans (g41 k hk)
      have k38 : ∀ p, p ≤ 200 → (ev_set (ev_set X 43 i (nI cnt)) 43 i (nI cnt + 1)) 38 p = nI (a p) := fun p hp => (ev_rd2 (by decide)).trans (g38 p hp)
      have kT : ∀ r, r ≤ R → ∀ q, q ≤ V → (ev_set (ev_set X 43 i (nI cnt)) 43 i (nI cnt + 1)) 95 ((((i + 1) * 201 + q) * 9) + r) = nI ((q_TT 9 N A (M - (i + 1)) (i + 1)) r q) := fun r hr q hq => (ev_rd2 (by decide)).trans (gT r hr q hq)
      refine ev_aload_n rfl rfl rfl ?_
      refine ev_aload_n rfl rfl rfl ?_
      refine ev_iload rfl rfl rfl ?_
      refine ev_iload rfl rfl rfl ?_
      refine ev_iload rfl rfl rfl ?_
      refine ev_V4D rfl rfl lk_X4_144 vt_X4_bestOption rfl rfl rfl rfl rfl (EvD.to (c_bestOption L _ V hV (cD h m) N (by intro p y; rw [k23, k22]; exact hN p y) hNV n n31 (c i) (bc i (by omega)) k7 k40 k41 (a (N p 0)) i (by omega) (N p 0) (by omega) (k38 (N p 0) (by omega)) r (by omega) ((q_TT 9 N A (M - (i + 1)) (i + 1)) r) (fun q => bT _ q) (fun q hq => kT r (by omega) q hq) n0) (show _ = nI (q_cbx (q_wr 9 N ((q_TT 9 N A (M - (i + 1)) (i + 1)) r) (N p 0)) (c i) (a (N p 0)) (n + 1) - 1) from rfl) rfl) ?_
      refine ev_istore rfl rfl rfl rfl ?_
      dsimp only [List.set]
      refine ev_goto rfl rfl ?_
      have cl : q_vS 9 N ((q_TT 9 N A (M - (i + 1)) (i + 1)) (r + 1)) p (A i p) < q_nx 9 N (q_TT 9 N A (M - (i + 1)) (i + 1)) (A i) (r + 1) p := (nI_lt2 (by omega) (by omega)).mp (Int32.not_le.mp c_92)
      rw [show (q_rst 9 N (q_TT 9 N A (M - (i + 1)) (i + 1)) (A i) (r + 1) p) = ((q_rst 9 N (q_TT 9 N A (M - (i + 1)) (i + 1)) (A i) r (N p 0)).1, (q_rst 9 N (q_TT 9 N A (M - (i + 1)) (i + 1)) (A i) r (N p 0)).2.1, (q_rst 9 N (q_TT 9 N A (M - (i + 1)) (i + 1)) (A i) r (N p 0)).2.2 + 1) from if_pos cl] at kk
      refine EvQ.hp (ev_set X 43 i (nI (cnt + 1))) (by rw [ev_ss, nI_1]) ?_
      refine ih (N p 0) (cnt + 1) (by omega) (hNV p 0) ?_
      rw [show cnt + 1 + (q_rst 9 N (q_TT 9 N A (M - (i + 1)) (i + 1)) (A i) r (N p 0)).2.2 = cnt + ((q_rst 9 N (q_TT 9 N A (M - (i + 1)) (i + 1)) (A i) r (N p 0)).2.2 + 1) by omega]
      exact kk

set_option maxRecDepth 100000 in
set_option maxHeartbeats 4000000 in
theorem l_fol (L : Nat) (h : Hp) (V : Nat) (hV : V ≤ 200) (eV : h 2 3 = nI V) (m : Nat) (hm0 : m ≤ 12) (hm : h 4 7 = nI m) (N : Nat → Nat → Nat) (hN : ∀ p y, nI (N p y) = z_min (h 2 3) (z_max 0 (nI p + 2 * h 2 2 - cD h m y))) (hNV : ∀ p y, N p y ≤ V) (R : Nat) (hR : R ≤ 8) (c : Nat → Nat) (M : Nat) (hM : M ≤ 24) (bc : ∀ i, i < M → c i < 4096) (pc : ∀ i, i < M → sbm (c i) 31 = 0) (e3 : h 37 3 = nI M) (e39 : ∀ i, i < M → h 39 i = nI (c i)) (a : Nat → Nat) (A : Nat → Nat → Nat) (hA : ∀ i p, A i p = c i &&& a p) (e38 : ∀ p, p ≤ 200 → h 38 p = nI (a p)) (e8 : h 37 8 = cD h m 0) (eT : ∀ i, i ≤ M → ∀ r, r ≤ R → ∀ q, q ≤ V → h 95 (((i * 201 + q) * 9) + r) = nI (q_TT 9 N A (M - i) i r q)) (p0 : Nat) (hp0 : p0 ≤ V) (e20 : h 2 0 = nI p0) : ∀ (t i : Nat) (F : Hp), i + t = M → JW [(37, 7), (37, 11), (37, 12), (37, 13), (40, 999), (41, 999), (42, 999), (43, 999)] h F → F 37 11 = nI (q_fo 9 N A M R p0 i).2.2 → (∀ j, j < i → F 42 j = nI (q_fsd 9 N A M R p0 j) ∧ F 43 j = nI (q_fah 9 N A M R p0 j)) → EvQ mi_X4_follow 17 [some (.ref 37), some (.ref 2), some (.ref 4), some (.int (nI R)), some (.int (nI (q_fo 9 N A M R p0 i).2.1)), some (.int (nI (q_fo 9 N A M R p0 i).1)), some (.int (nI i)), none] [] (G0 L true) F 0 0 (QK (fun z => z 37 11 = nI (q_fo 9 N A M R p0 M).2.2 ∧ z 37 12 = nI (R - (q_fo 9 N A M R p0 M).1) ∧ z 37 13 = nI (q_fo 9 N A M R p0 M).2.1 ∧ ∀ j, j < M → z 42 j = nI (q_fsd 9 N A M R p0 j) ∧ z 43 j = nI (q_fah 9 N A M R p0 j)) [(37, 7), (37, 11), (37, 12), (37, 13), (40, 999), (41, 999), (42, 999), (43, 999)] (G0 L true) h) := by
  intro t
  induction t with
  | zero =>
    intro i F hi hF e11 es
    have hi2 : i = M := by omega
    subst hi2
    have f3 : F 37 3 = nI i := (hF.2 37 3 rfl).trans e3
    refine ev_iload rfl rfl rfl ?_
    refine ev_aload_n rfl rfl rfl ?_
    refine ev_getI rfl rfl fl_X4_21 rfl rfl rfl ?_
    try simp only [f3]
    refine ev_icmp_ge rfl rfl (fun c_23 => ?_) (fun z_ => absurd (Int32.le_refl _) z_)
    refine ev_aload_n rfl rfl rfl ?_
    refine ev_iload_n rfl rfl rfl ?_
    refine ev_iload rfl rfl rfl ?_
    refine ev_isubV (v := nI (R - (q_fo 9 N A i R p0 i).1)) (nI_sub2 (a := R) (q_fo_r 9 N A i R p0 i) (by omega)).symm rfl rfl ?_
    refine ev_putI rfl rfl fl_X4_49 rfl rfl rfl rfl rfl ?_
    refine ev_aload_n rfl rfl rfl ?_
    refine ev_iload rfl rfl rfl ?_
    refine ev_putI rfl rfl fl_X4_52 rfl rfl rfl rfl rfl ?_
    exact ev_vret rfl rfl trivial (⟨rfl, rfl, (hF.set rfl (B.any _)).set rfl (B.any _), (ev_rd3 (by decide)).trans ((ev_rd3 (by decide)).trans e11), (ev_rd3 (by decide)).trans (ev_rd1 _ _ _ _), ev_rd1 _ _ _ _, fun j hj => ⟨(ev_rd2 (by decide)).trans ((ev_rd2 (by decide)).trans (es j hj).1), (ev_rd2 (by decide)).trans ((ev_rd2 (by decide)).trans (es j hj).2)⟩⟩)
  | succ t ih =>
    intro i F hi hF e11 es
    have f3 : F 37 3 = nI M := (hF.2 37 3 rfl).trans e3
    have f39 : F 39 i = nI (c i) := (hF.2 39 i rfl).trans (e39 i (by omega))
    obtain ⟨n, n31, n0, n1⟩ := sbm_first 31 (pc i (by omega))
    have bT : ∀ r q, (q_TT 9 N A (M - (i + 1)) (i + 1)) r q ≤ 3000 := fun r q => by have := q_TT_le (K := 9) (N := N) (A := A) (M - (i + 1)) (i + 1) r q; omega
    have dF : cD F m = cD h m := funext (fun y => by
      unfold cD
      rw [hF.2 4 6 rfl]
      exact s_drawn_cg (fun k => hF.2 6 k rfl) _ _ _)
    have hX1 : JW [(37, 7), (37, 11), (37, 12), (37, 13), (40, 999), (41, 999), (42, 999), (43, 999)] h (k_lo F m (c i) (n + 1)) := hF.lo rfl (fun _ => rfl) (fun _ => rfl) m (c i) (by omega)
    have z7 : (k_lo F m (c i) (n + 1)) 37 7 = nI (n + 1) := k_lo_7 F m (c i) (n + 1)
    have z40 : ∀ k, k ≤ n → (k_lo F m (c i) (n + 1)) 40 k = nI (sbm (c i) k) := fun k hk => k_lo_40 (by omega)
    have z41 : ∀ k, k ≤ n → (k_lo F m (c i) (n + 1)) 41 k = cD h m (sbm (c i) k) := fun k hk => by rw [← dF]; exact k_lo_41 (by omega)
    have hX2 : JW [(37, 7), (37, 11), (37, 12), (37, 13), (40, 999), (41, 999), (42, 999), (43, 999)] h (ev_set (k_lo F m (c i) (n + 1)) 43 i 0) := hX1.set rfl (B.any _)
    have x7 : (ev_set (k_lo F m (c i) (n + 1)) 43 i 0) 37 7 = nI (n + 1) := (ev_rd2 (by decide)).trans z7
    have x40 : ∀ k, k ≤ n → (ev_set (k_lo F m (c i) (n + 1)) 43 i 0) 40 k = nI (sbm (c i) k) := fun k hk => (ev_rd2 (by decide)).trans (z40 k hk)
    have x41 : ∀ k, k ≤ n → (ev_set (k_lo F m (c i) (n + 1)) 43 i 0) 41 k = cD h m (sbm (c i) k) := fun k hk => (ev_rd2 (by decide)).trans (z41 k hk)
    have rr := q_fo_r 9 N A M R p0 i
    have pp := q_fo_p (K := 9) (A := A) (M := M) (R := R) hNV hp0 i
    refine ev_iload rfl rfl rfl ?_
    refine ev_aload_n rfl rfl rfl ?_
    refine ev_getI rfl rfl fl_X4_21 rfl rfl rfl ?_
    try simp only [f3, f39]
    refine ev_icmp_ge rfl rfl (fun z_ => absurd z_ (nI_ge (by omega) (by omega))) (fun c_23 => ?_)
    refine ev_aload_n rfl rfl rfl ?_
    refine ev_aload_n rfl rfl rfl ?_
    refine ev_aload_n rfl rfl rfl ?_
    refine ev_getR rfl rfl fl_X4_18 rfl rfl rfl rfl ?_
    refine ev_iload rfl rfl rfl ?_
    refine ev_iald rfl rfl rfl (vp_in_nI (by omega) (by decide)) (nI_clamp (by omega)) ?_
    try simp only [f3, f39]
    refine ev_V2U rfl rfl lk_X4_93 vt_X4_listOptions rfl rfl rfl rfl rfl (EvU.to (c_listOptions L true F m hm0 ((hF.2 4 7 rfl).trans hm) (c i) (bc i (by omega)) n n0 n1 n31) rfl) ?_
    refine ev_aload_n rfl rfl rfl ?_
    refine ev_getR rfl rfl fl_X4_43 rfl rfl rfl rfl ?_
    refine ev_iload rfl rfl rfl ?_
    refine ev_iconst (v := 0) rfl rfl (by decide) ?_
    refine ev_iast rfl rfl rfl rfl (vp_in_nI (by omega) (by decide)) (nI_clamp (by omega)) ?_
    have g23 : (ev_set (k_lo F m (c i) (n + 1)) 43 i 0) 2 3 = h 2 3 := (hX2.2 2 3 rfl)
    have g22 : (ev_set (k_lo F m (c i) (n + 1)) 43 i 0) 2 2 = h 2 2 := (hX2.2 2 2 rfl)
    have g7 : (ev_set (k_lo F m (c i) (n + 1)) 43 i 0) 37 7 = nI (n + 1) := x7
    have g40 : ∀ k, k ≤ n → (ev_set (k_lo F m (c i) (n + 1)) 43 i 0) 40 k = nI (sbm (c i) k) := x40
    have g41 : ∀ k, k ≤ n → (ev_set (k_lo F m (c i) (n + 1)) 43 i 0) 41 k = cD h m (sbm (c i) k) := x41
    have g38 : ∀ p, p ≤ 200 → (ev_set (k_lo F m (c i) (n + 1)) 43 i 0) 38 p = nI (a p) := fun p hp => (hX2.2 38 p rfl).trans (e38 p hp)
    have g8 : (ev_set (k_lo F m (c i) (n + 1)) 43 i 0) 37 8 = cD h m 0 := (hX2.2 37 8 rfl).trans e8
    have gT : ∀ r, r ≤ R → ∀ q, q ≤ V → (ev_set (k_lo F m (c i) (n + 1)) 43 i 0) 95 ((((i + 1) * 201 + q) * 9) + r) = nI ((q_TT 9 N A (M - (i + 1)) (i + 1)) r q) := fun r hr q hq => by
      have z := eT (i + 1) (by omega) r hr q hq
      exact (hX2.2 95 _ rfl).trans z
    have gT0 : ∀ r, r ≤ R → ∀ q, q ≤ V → (ev_set (k_lo F m (c i) (n + 1)) 43 i 0) 95 (((i * 201 + q) * 9) + r) = nI (q_nx 9 N (q_TT 9 N A (M - (i + 1)) (i + 1)) (A i) r q) := fun r hr q hq => by
      have z := eT i (by omega) r hr q hq
      rw [show M - i = (M - (i + 1)) + 1 by omega] at z
      exact (hX2.2 95 _ rfl).trans z
    refine ev_aload_n rfl rfl rfl ?_
    refine ev_aload_n rfl rfl rfl ?_
    refine ev_iload rfl rfl rfl ?_
    refine ev_iload rfl rfl rfl ?_
    refine ev_iload rfl rfl rfl ?_
    refine ev_V4D rfl rfl lk_X4_144 vt_X4_bestOption rfl rfl rfl rfl rfl (EvD.to (c_bestOption L _ V hV (cD h m) N (by intro p y; rw [g23, g22]; exact hN p y) hNV n n31 (c i) (bc i (by omega)) g7 g40 g41 (a (q_fo 9 N A M R p0 i).2.1) i (by omega) (q_fo 9 N A M R p0 i).2.1 (by omega) (g38 (q_fo 9 N A M R p0 i).2.1 (by omega)) (q_fo 9 N A M R p0 i).1 (by omega) ((q_TT 9 N A (M - (i + 1)) (i + 1)) (q_fo 9 N A M R p0 i).1) (fun q => bT _ q) (fun q hq => gT (q_fo 9 N A M R p0 i).1 (by omega) q hq) n0) (show _ = nI (q_cbx (q_wr 9 N ((q_TT 9 N A (M - (i + 1)) (i + 1)) (q_fo 9 N A M R p0 i).1) (q_fo 9 N A M R p0 i).2.1) (c i) (a (q_fo 9 N A M R p0 i).2.1) (n + 1) - 1) from rfl) rfl) ?_
    refine ev_istore rfl rfl rfl rfl ?_
    dsimp only [List.set]
    refine l_fw L h V hV eV m hm0 hm N hN hNV R hR c M hM bc pc a A hA e38 e8 eT i (by omega) n n31 n0 (k_lo F m (c i) (n + 1)) hX1 z7 z40 z41 _ (q_fo 9 N A M R p0 i).1 (q_fo 9 N A M R p0 i).2.1 0 (q_fo_r _ _ _ _ _ _ _) (q_fo_p hNV hp0 _) ?_
    have ce := q_cbx_end (f := q_wr 9 N ((q_TT 9 N A (M - (i + 1)) (i + 1)) (q_rst 9 N (q_TT 9 N A (M - (i + 1)) (i + 1)) (A i) (q_fo 9 N A M R p0 i).1 (q_fo 9 N A M R p0 i).2.1).1) (q_rst 9 N (q_TT 9 N A (M - (i + 1)) (i + 1)) (A i) (q_fo 9 N A M R p0 i).1 (q_fo 9 N A M R p0 i).2.1).2.1) (a := a (q_rst 9 N (q_TT 9 N A (M - (i + 1)) (i + 1)) (A i) (q_fo 9 N A M R p0 i).1 (q_fo 9 N A M R p0 i).2.1).2.1) n0
    have ce1 := ce.2.1
    have rl : (q_rst 9 N (q_TT 9 N A (M - (i + 1)) (i + 1)) (A i) (q_fo 9 N A M R p0 i).1 (q_fo 9 N A M R p0 i).2.1).1 ≤ R := q_fo_r 9 N A M R p0 (i + 1)
    have pl : (q_rst 9 N (q_TT 9 N A (M - (i + 1)) (i + 1)) (A i) (q_fo 9 N A M R p0 i).1 (q_fo 9 N A M R p0 i).2.1).2.1 ≤ V := q_rst_p hNV _ _ (q_fo_p hNV hp0 i)
    have es2 : sbm (c i) (q_cbx (q_wr 9 N ((q_TT 9 N A (M - (i + 1)) (i + 1)) (q_rst 9 N (q_TT 9 N A (M - (i + 1)) (i + 1)) (A i) (q_fo 9 N A M R p0 i).1 (q_fo 9 N A M R p0 i).2.1).1) (q_rst 9 N (q_TT 9 N A (M - (i + 1)) (i + 1)) (A i) (q_fo 9 N A M R p0 i).1 (q_fo 9 N A M R p0 i).2.1).2.1) (c i) (a (q_rst 9 N (q_TT 9 N A (M - (i + 1)) (i + 1)) (A i) (q_fo 9 N A M R p0 i).1 (q_fo 9 N A M R p0 i).2.1).2.1) (n + 1) - 1) = q_fsd 9 N A M R p0 i := by
      rw [ce.2.2, ← hA]
      rfl
    have fl : q_fsd 9 N A M R p0 i < 4096 := by rw [← es2]; exact sbm_12 (bc i (by omega)) _
    have s40 : (ev_set (k_lo F m (c i) (n + 1)) 43 i (nI (0 + (q_rst 9 N (q_TT 9 N A (M - (i + 1)) (i + 1)) (A i) (q_fo 9 N A M R p0 i).1 (q_fo 9 N A M R p0 i).2.1).2.2))) 40 (q_cbx (q_wr 9 N ((q_TT 9 N A (M - (i + 1)) (i + 1)) (q_rst 9 N (q_TT 9 N A (M - (i + 1)) (i + 1)) (A i) (q_fo 9 N A M R p0 i).1 (q_fo 9 N A M R p0 i).2.1).1) (q_rst 9 N (q_TT 9 N A (M - (i + 1)) (i + 1)) (A i) (q_fo 9 N A M R p0 i).1 (q_fo 9 N A M R p0 i).2.1).2.1) (c i) (a (q_rst 9 N (q_TT 9 N A (M - (i + 1)) (i + 1)) (A i) (q_fo 9 N A M R p0 i).1 (q_fo 9 N A M R p0 i).2.1).2.1) (n + 1) - 1) = nI (q_fsd 9 N A M R p0 i) := (ev_rd2 (by decide)).trans ((z40 _ (by omega)).trans (congrArg nI es2))
    have s41 : (ev_set (k_lo F m (c i) (n + 1)) 43 i (nI (0 + (q_rst 9 N (q_TT 9 N A (M - (i + 1)) (i + 1)) (A i) (q_fo 9 N A M R p0 i).1 (q_fo 9 N A M R p0 i).2.1).2.2))) 41 (q_cbx (q_wr 9 N ((q_TT 9 N A (M - (i + 1)) (i + 1)) (q_rst 9 N (q_TT 9 N A (M - (i + 1)) (i + 1)) (A i) (q_fo 9 N A M R p0 i).1 (q_fo 9 N A M R p0 i).2.1).1) (q_rst 9 N (q_TT 9 N A (M - (i + 1)) (i + 1)) (A i) (q_fo 9 N A M R p0 i).1 (q_fo 9 N A M R p0 i).2.1).2.1) (c i) (a (q_rst 9 N (q_TT 9 N A (M - (i + 1)) (i + 1)) (A i) (q_fo 9 N A M R p0 i).1 (q_fo 9 N A M R p0 i).2.1).2.1) (n + 1) - 1) = cD h m (q_fsd 9 N A M R p0 i) := (ev_rd2 (by decide)).trans ((z41 _ (by omega)).trans (congrArg (cD h m) es2))
    have s11 : (ev_set (k_lo F m (c i) (n + 1)) 43 i (nI (0 + (q_rst 9 N (q_TT 9 N A (M - (i + 1)) (i + 1)) (A i) (q_fo 9 N A M R p0 i).1 (q_fo 9 N A M R p0 i).2.1).2.2))) 37 11 = nI (q_fo 9 N A M R p0 i).2.2 := (ev_rd2 (by decide)).trans ((k_lo_37 (by decide)).trans e11)
    have u23 : (ev_set (ev_set (ev_set (k_lo F m (c i) (n + 1)) 43 i (nI (0 + (q_rst 9 N (q_TT 9 N A (M - (i + 1)) (i + 1)) (A i) (q_fo 9 N A M R p0 i).1 (q_fo 9 N A M R p0 i).2.1).2.2))) 42 i (nI (q_fsd 9 N A M R p0 i))) 37 11 (nI ((q_fo 9 N A M R p0 i).2.2 + q_pop (q_fsd 9 N A M R p0 i)))) 2 3 = h 2 3 := ((((hX1.set (a := 43) (k := i) (x := nI (0 + (q_rst 9 N (q_TT 9 N A (M - (i + 1)) (i + 1)) (A i) (q_fo 9 N A M R p0 i).1 (q_fo 9 N A M R p0 i).2.1).2.2)) rfl (B.any _)).set (a := 42) (k := i) (x := nI (q_fsd 9 N A M R p0 i)) rfl (B.any _)).set (a := 37) (k := 11) (x := nI ((q_fo 9 N A M R p0 i).2.2 + q_pop (q_fsd 9 N A M R p0 i))) rfl (B.any _))).2 2 3 rfl
    have u22 : (ev_set (ev_set (ev_set (k_lo F m (c i) (n + 1)) 43 i (nI (0 + (q_rst 9 N (q_TT 9 N A (M - (i + 1)) (i + 1)) (A i) (q_fo 9 N A M R p0 i).1 (q_fo 9 N A M R p0 i).2.1).2.2))) 42 i (nI (q_fsd 9 N A M R p0 i))) 37 11 (nI ((q_fo 9 N A M R p0 i).2.2 + q_pop (q_fsd 9 N A M R p0 i)))) 2 2 = h 2 2 := ((((hX1.set (a := 43) (k := i) (x := nI (0 + (q_rst 9 N (q_TT 9 N A (M - (i + 1)) (i + 1)) (A i) (q_fo 9 N A M R p0 i).1 (q_fo 9 N A M R p0 i).2.1).2.2)) rfl (B.any _)).set (a := 42) (k := i) (x := nI (q_fsd 9 N A M R p0 i)) rfl (B.any _)).set (a := 37) (k := 11) (x := nI ((q_fo 9 N A M R p0 i).2.2 + q_pop (q_fsd 9 N A M R p0 i))) rfl (B.any _))).2 2 2 rfl
    refine ev_aload_n rfl rfl rfl ?_
    refine ev_getR rfl rfl fl_X4_40 rfl rfl rfl rfl ?_
    refine ev_iload rfl rfl rfl ?_
    refine ev_aload_n rfl rfl rfl ?_
    refine ev_getR rfl rfl fl_X4_28 rfl rfl rfl rfl ?_
    refine ev_iload rfl rfl rfl ?_
    refine ev_iadV (j := (q_cbx (q_wr 9 N ((q_TT 9 N A (M - (i + 1)) (i + 1)) (q_rst 9 N (q_TT 9 N A (M - (i + 1)) (i + 1)) (A i) (q_fo 9 N A M R p0 i).1 (q_fo 9 N A M R p0 i).2.1).1) (q_rst 9 N (q_TT 9 N A (M - (i + 1)) (i + 1)) (A i) (q_fo 9 N A M R p0 i).1 (q_fo 9 N A M R p0 i).2.1).2.1) (c i) (a (q_rst 9 N (q_TT 9 N A (M - (i + 1)) (i + 1)) (A i) (q_fo 9 N A M R p0 i).1 (q_fo 9 N A M R p0 i).2.1).2.1) (n + 1) - 1)) (v := nI (q_fsd 9 N A M R p0 i)) rfl rfl rfl (vp_in_nI (by omega) (by decide)) (nI_clamp (by omega)) s40 ?_
    refine ev_iast rfl rfl rfl rfl (vp_in_nI (by omega) (by decide)) (nI_clamp (by omega)) ?_
    refine ev_aload_n rfl rfl rfl ?_
    refine ev_dup rfl rfl rfl ?_
    refine ev_getV (v := nI (q_fo 9 N A M R p0 i).2.2) rfl rfl fl_X4_46 rfl rfl rfl ((ev_rd2 (by decide)).trans s11) ?_
    refine ev_aload_n rfl rfl rfl ?_
    refine ev_getR rfl rfl fl_X4_28 rfl rfl rfl rfl ?_
    refine ev_iload rfl rfl rfl ?_
    refine ev_iadV (j := (q_cbx (q_wr 9 N ((q_TT 9 N A (M - (i + 1)) (i + 1)) (q_rst 9 N (q_TT 9 N A (M - (i + 1)) (i + 1)) (A i) (q_fo 9 N A M R p0 i).1 (q_fo 9 N A M R p0 i).2.1).1) (q_rst 9 N (q_TT 9 N A (M - (i + 1)) (i + 1)) (A i) (q_fo 9 N A M R p0 i).1 (q_fo 9 N A M R p0 i).2.1).2.1) (c i) (a (q_rst 9 N (q_TT 9 N A (M - (i + 1)) (i + 1)) (A i) (q_fo 9 N A M R p0 i).1 (q_fo 9 N A M R p0 i).2.1).2.1) (n + 1) - 1)) (v := nI (q_fsd 9 N A M R p0 i)) rfl rfl rfl (vp_in_nI (by omega) (by decide)) (nI_clamp (by omega)) ((ev_rd2 (by decide)).trans s40) ?_
    refine ev_S1D rfl rfl lk_X4_123 st_J6_bitCount_0f7a4 rfl rfl (EvD.to (c_bitCount _ _ _) (bc_pop fl) rfl) ?_
    refine ev_iaddV (v := nI ((q_fo 9 N A M R p0 i).2.2 + q_pop (q_fsd 9 N A M R p0 i))) (nI_ad _ _).symm rfl rfl ?_
    refine ev_putI rfl rfl fl_X4_46 rfl rfl rfl rfl rfl ?_
    refine ev_aload_n rfl rfl rfl ?_
    refine ev_iload rfl rfl rfl ?_
    refine ev_aload_n rfl rfl rfl ?_
    refine ev_getR rfl rfl fl_X4_31 rfl rfl rfl rfl ?_
    refine ev_iload rfl rfl rfl ?_
    refine ev_iadV (j := (q_cbx (q_wr 9 N ((q_TT 9 N A (M - (i + 1)) (i + 1)) (q_rst 9 N (q_TT 9 N A (M - (i + 1)) (i + 1)) (A i) (q_fo 9 N A M R p0 i).1 (q_fo 9 N A M R p0 i).2.1).1) (q_rst 9 N (q_TT 9 N A (M - (i + 1)) (i + 1)) (A i) (q_fo 9 N A M R p0 i).1 (q_fo 9 N A M R p0 i).2.1).2.1) (c i) (a (q_rst 9 N (q_TT 9 N A (M - (i + 1)) (i + 1)) (A i) (q_fo 9 N A M R p0 i).1 (q_fo 9 N A M R p0 i).2.1).2.1) (n + 1) - 1)) (v := cD h m (q_fsd 9 N A M R p0 i)) rfl rfl rfl (vp_in_nI (by omega) (by decide)) (nI_clamp (by omega)) ((ev_rd2 (by decide)).trans ((ev_rd2 (by decide)).trans s41)) ?_
    refine ev_V2D rfl rfl lk_X4_129 vt_X1_after rfl rfl rfl rfl rfl (EvD.to (c_after (G0 L true) _ 2 rfl rfl (nI (q_rst 9 N (q_TT 9 N A (M - (i + 1)) (i + 1)) (A i) (q_fo 9 N A M R p0 i).1 (q_fo 9 N A M R p0 i).2.1).2.1) (cD h m (q_fsd 9 N A M R p0 i))) (show _ = nI (N (q_rst 9 N (q_TT 9 N A (M - (i + 1)) (i + 1)) (A i) (q_fo 9 N A M R p0 i).1 (q_fo 9 N A M R p0 i).2.1).2.1 (q_fsd 9 N A M R p0 i)) from by rw [u23, u22]; exact (hN _ _).symm) rfl) ?_
    refine ev_istore rfl rfl rfl rfl ?_
    dsimp only [List.set]
    refine ev_iinc (y := 1) rfl rfl rfl (by decide) rfl rfl ?_
    dsimp only [List.set]
    refine ev_goto rfl rfl ?_
    rw [nI_1 i]
    refine EvQ.drop 7 (ih (i + 1) (ev_set (ev_set (ev_set (k_lo F m (c i) (n + 1)) 43 i (nI (0 + (q_rst 9 N (q_TT 9 N A (M - (i + 1)) (i + 1)) (A i) (q_fo 9 N A M R p0 i).1 (q_fo 9 N A M R p0 i).2.1).2.2))) 42 i (nI (q_fsd 9 N A M R p0 i))) 37 11 (nI ((q_fo 9 N A M R p0 i).2.2 + q_pop (q_fsd 9 N A M R p0 i)))) (by omega) ?_ (ev_rd1 _ _ _ _) (fun j hj => ?_))
    · exact (((hX1.set rfl (B.any _)).set rfl (B.any _)).set rfl (B.any _))
    · refine ⟨?_, ?_⟩
      · rw [ev_rd2 (by decide), ev_sj]
        by_cases e : j = i
        · subst e
          rw [if_pos rfl]
        · rw [if_neg e, ev_rd2 (by decide), k_lo_ne (by decide) (by decide) (by decide)]
          exact (es j (by omega)).1
      · rw [ev_rd2 (by decide), ev_rd2 (by decide), ev_sj]
        by_cases e : j = i
        · subst e
          rw [if_pos rfl, Nat.zero_add]
          rfl
        · rw [if_neg e, k_lo_ne (by decide) (by decide) (by decide)]
          exact (es j (by omega)).2

set_option maxRecDepth 100000 in
set_option maxHeartbeats 4000000 in
theorem c_follow (L : Nat) (h : Hp) (hB : Bx h) (V : Nat) (hV : V ≤ 200) (eV : h 2 3 = nI V) (m : Nat) (hm0 : m ≤ 12) (hm : h 4 7 = nI m) (N : Nat → Nat → Nat) (hN : ∀ p y, nI (N p y) = z_min (h 2 3) (z_max 0 (nI p + 2 * h 2 2 - cD h m y))) (hNV : ∀ p y, N p y ≤ V) (R : Nat) (hR : R ≤ 8) (c : Nat → Nat) (M : Nat) (hM : M ≤ 24) (bc : ∀ i, i < M → c i < 4096) (pc : ∀ i, i < M → sbm (c i) 31 = 0) (e3 : h 37 3 = nI M) (e39 : ∀ i, i < M → h 39 i = nI (c i)) (a : Nat → Nat) (A : Nat → Nat → Nat) (hA : ∀ i p, A i p = c i &&& a p) (e38 : ∀ p, p ≤ 200 → h 38 p = nI (a p)) (e8 : h 37 8 = cD h m 0) (eT : ∀ i, i ≤ M → ∀ r, r ≤ R → ∀ q, q ≤ V → h 95 (((i * 201 + q) * 9) + r) = nI (q_TT 9 N A (M - i) i r q)) (p0 : Nat) (hp0 : p0 ≤ V) (e20 : h 2 0 = nI p0)  : EvK mi_X4_follow [.ref 37, .ref 2, .ref 4, .int (nI R)] (G0 L true) h (fun z => z 37 11 = nI (q_fo 9 N A M R p0 M).2.2 ∧ z 37 12 = nI (R - (q_fo 9 N A M R p0 M).1) ∧ z 37 13 = nI (q_fo 9 N A M R p0 M).2.1 ∧ ∀ j, j < M → z 42 j = nI (q_fsd 9 N A M R p0 j) ∧ z 43 j = nI (q_fah 9 N A M R p0 j)) [(37, 7), (37, 11), (37, 12), (37, 13), (40, 999), (41, 999), (42, 999), (43, 999)] := by
  refine EvM.of2 (lo := [some (.ref 37), some (.ref 2), some (.ref 4), some (.int (nI R)), none, none, none, none]) pf_X4_follow ok_X4_follow rfl rfl ?_
  refine ev_aload_n rfl rfl rfl ?_
  refine ev_getI rfl rfl fl_X4_141 rfl rfl rfl ?_
  try simp only [e20]
  refine ev_istore rfl rfl rfl rfl ?_
  dsimp only [List.set]
  refine ev_iload_n rfl rfl rfl ?_
  refine ev_istore rfl rfl rfl rfl ?_
  dsimp only [List.set]
  refine ev_aload_n rfl rfl rfl ?_
  refine ev_iconst (v := 0) rfl rfl (by decide) ?_
  refine ev_putI rfl rfl fl_X4_46 rfl rfl rfl rfl rfl ?_
  refine ev_iconst (v := 0) rfl rfl (by decide) ?_
  refine ev_istore rfl rfl rfl rfl ?_
  dsimp only [List.set]
  exact l_fol L h V hV eV m hm0 hm N hN hNV R hR c M hM bc pc e3 e39 a A hA e38 e8 eT p0 hp0 e20 M 0 _ (by omega) ((JW.refl hB).set rfl (B.any _)) (ev_rd1 _ _ _ _) (fun j hj => absurd hj (Nat.not_lt_zero _))
