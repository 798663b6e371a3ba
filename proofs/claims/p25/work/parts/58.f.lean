/-- the spot is met -/
def mt (g : Hp) (i r p : Nat) : Prop := ¬ g 84 (1809 * i + 201 * r + p) = 0
/-- the table is filled where P, as far as it is met -/
def mTB (g F : Hp) (N : Nat → Nat → Nat) (A : Nat → Nat → Nat) (M R V : Nat) (P : Nat → Nat → Nat → Prop) : Prop := ∀ i r p, i < M → r ≤ R → p ≤ V → P i r p → mt g i r p → F 78 (1809 * i + 201 * r + p) = nI (q_TT 16 N A (M - i) i r p)
theorem mTB.of {g F : Hp} {N : Nat → Nat → Nat} {A : Nat → Nat → Nat} {M R V : Nat} {P Q : Nat → Nat → Nat → Prop} (h : mTB g F N A M R V P) (w : ∀ i r p, i < M → r ≤ R → p ≤ V → Q i r p → P i r p) : mTB g F N A M R V Q := fun i r p a1 a2 a3 a4 => h i r p a1 a2 a3 (w i r p a1 a2 a3 a4)
theorem mTB.nx {g F : Hp} {N : Nat → Nat → Nat} {A : Nat → Nat → Nat} {M R V : Nat} {P : Nat → Nat → Nat → Prop} (h : mTB g F N A M R V P) (z : ∀ j, j < 1809 → F 78 (1809 * M + j) = 0) {i r p : Nat} (hi : i < M) (hr : r ≤ R) (h8 : R ≤ 8) (hp : p ≤ V) (h200 : V ≤ 200) (hP : P (i + 1) r p) (hm : mt g (i + 1) r p) : F 78 (1809 * (i + 1) + 201 * r + p) = nI (q_TT 16 N A (M - (i + 1)) (i + 1) r p) := by
  by_cases e : i + 1 < M
  · exact h (i + 1) r p e hr hp hP hm
  · have e2 : i + 1 = M := by omega
    rw [e2, Nat.sub_self, show 1809 * M + 201 * r + p = 1809 * M + (201 * r + p) by omega, z _ (by omega)]
    rfl
theorem sp_inj {i r p i' r' p' : Nat} (h1 : r ≤ 8) (h2 : p ≤ 200) (h3 : r' ≤ 8) (h4 : p' ≤ 200) (e : 1809 * i + 201 * r + p = 1809 * i' + 201 * r' + p') : i = i' ∧ r = r' ∧ p = p' := by
  have hi : i = i' := by omega
  subst hi
  have hr : r = r' := by omega
  subst hr
  exact ⟨rfl, rfl, by omega⟩
theorem mx_le {s t : Nat} (hs : s < 2 ^ 30) (ht : t < 2 ^ 30) (c : nI t - 1 ≤ nI s) : max s (t - 1) = s := by
  by_cases t0 : t = 0
  · subst t0; exact Nat.max_eq_left (Nat.zero_le _)
  · rw [nI_m _ (by omega) (by omega), nI_le2 (by omega) (by omega)] at c
    exact Nat.max_eq_left c
theorem mx_gt {s t : Nat} (hs : s < 2 ^ 30) (ht : t < 2 ^ 30) (c : ¬ nI t - 1 ≤ nI s) : nI t - 1 = nI (max s (t - 1)) := by
  by_cases t0 : t = 0
  · subst t0
    exfalso
    apply c
    rw [Int32.le_iff_toInt_le, nI_toInt (by omega)]
    have e : (nI 0 - 1 : Int32).toInt = -1 := by decide
    omega
  · rw [nI_m _ (by omega) (by omega)] at c ⊢
    rw [nI_le2 (by omega) (by omega)] at c
    rw [Nat.max_eq_right (by omega)]
theorem bx78 {i r p x : Nat} (hr : r ≤ 8) (hp : p ≤ 200) (hi : i ≤ 24) (hx : x ≤ 192 * (24 - i)) : B (nI x) (bx 78 (1809 * i + 201 * r + p)).1 (bx 78 (1809 * i + 201 * r + p)).2 := by
  have e : (1809 * i + 201 * r + p) / 1809 = i := by omega
  show B (nI x) 0 (192 * ((24 - (1809 * i + 201 * r + p) / 1809 : Nat) : Int))
  rw [e]
  exact nI_B (by omega) (by omega)
theorem nx_u (K : Nat) (N : Nat → Nat → Nat) (F : Nat → Nat → Nat) (A : Nat → Nat) (r p : Nat) : q_nx K N F A (r + 1) p = max (q_vS K N (F (r + 1)) p (A p)) (q_nx K N F A r (N p 0) - 1) := rfl
theorem tt_u (K : Nat) (N : Nat → Nat → Nat) (A : Nat → Nat → Nat) {M i : Nat} (hi : i < M) : q_TT K N A (M - i) i = q_nx K N (q_TT K N A (M - (i + 1)) (i + 1)) (A i) := by
  rw [show M - i = (M - (i + 1)) + 1 by omega]
  rfl

set_option maxRecDepth 100000 in
set_option maxHeartbeats 4000000 in
theorem l_m91 (L : Nat) (b : Bool) (h : Hp) (V : Nat) (hV : V ≤ 200) (eV : h 63 3 = nI V) (m : Nat) (hm0 : m ≤ 12) (D : Nat → Int32) (N : Nat → Nat → Nat) (hN : ∀ p y, y < 2 ^ m → nI (N p y) = zth h (nI p) (D y)) (hNV : ∀ p y, N p y ≤ V) (R : Nat) (hR : R ≤ 8) (c : Nat → Nat) (M : Nat) (hM : M ≤ 24) (a : Nat → Nat) (A : Nat → Nat → Nat) (hA : ∀ i p, c i &&& a p = A i p) (bA : ∀ i, i < M → ∀ p, A i p < 2 ^ m) (n : Nat) (hn : n < 6) (k : Int32) (e74 : ∀ i, i < M → z_mv2 (h 74 (24 * n + i)) k = nI (c i)) (e81 : ∀ p, p ≤ V → h 81 p = nI (a p)) (e82 : ∀ x, x < 2 ^ m → h 82 x = D x) (e83 : ∀ x, x < 2 ^ m → h 83 x = nI (q_pop x)) (C1 : ∀ i r p, i < M → r + 1 ≤ R → p ≤ V → mt h i (r + 1) p → mt h i r (N p 0)) (C2 : ∀ i r p, i < M → r ≤ R → p ≤ V → mt h i r p → ∀ y, y &&& A i p = y → mt h (i + 1) r (N p y)) (d : Int32) (i : Nat) (hi : i < M) (r : Nat) (hr : r ≤ R) (Q : Pst) (kk : ∀ F : Hp, JW [(63, 35), (78, 999)] h F → mTB h F N A M R V (fun i' r' p' => i < i' ∨ (i' = i ∧ r' < r + 1)) → (∀ j, j < 1809 → F 78 (1809 * M + j) = 0) → EvQ mi_X10_fills 208 [some (.ref 63), some (.int (nI n)), some (.int k), some (.int d), some (.int (nI R)), some (.int (nI M)), some (.int (nI i)), some (.int (nI (c i))), some (.int (nI r)), some (.int (nI (V + 1))), none, none] [] (G0 L b) F 0 0 Q) : ∀ (t p : Nat) (F : Hp), p + t = V + 1 → JW [(63, 35), (78, 999)] h F → mTB h F N A M R V (fun i' r' p' => i < i' ∨ (i' = i ∧ (r' < r ∨ (r' = r ∧ p' < p)))) → (∀ j, j < 1809 → F 78 (1809 * M + j) = 0) → EvQ mi_X10_fills 91 [some (.ref 63), some (.int (nI n)), some (.int k), some (.int d), some (.int (nI R)), some (.int (nI M)), some (.int (nI i)), some (.int (nI (c i))), some (.int (nI r)), some (.int (nI p)), none, none] [] (G0 L b) F 0 0 Q := by
  have p12 : 2 ^ m ≤ 4096 := (Nat.pow_le_pow_right (n := 2) (by decide) hm0 : 2 ^ m ≤ 2 ^ 12)
  have bT : ∀ r q, (q_TT 16 N A (M - (i + 1)) (i + 1)) r q ≤ 5000 := fun r q => by have := q_TT_le (K := 16) (N := N) (A := A) (M - (i + 1)) (i + 1) r q; omega
  intro t
  induction t with
  | zero =>
    intro p F hp hF e1 e0
    have hp2 : p = V + 1 := by omega
    subst hp2
    have fV : F 63 3 = nI V := (hF.2 63 3 rfl).trans eV
    refine ev_iload rfl rfl rfl ?_
    refine ev_aload_n rfl rfl rfl ?_
    refine ev_getI rfl rfl fl_X10_19 rfl rfl rfl ?_
    try simp only [fV]
    refine ev_icmp_gt rfl rfl (fun c_97 => ?_) (fun z_ => absurd (show nI V < nI (V + 1) from (nI_lt2 (by omega) (by omega)).mpr (by omega)) z_)
    exact kk F hF (e1.of (fun i' r' p' a1 a2 a3 a4 => by omega)) e0
  | succ t ih =>
    intro p F hp hF e1 e0
    have fV : F 63 3 = nI V := (hF.2 63 3 rfl).trans eV
    cases r with
    | zero =>
      refine ev_iload rfl rfl rfl ?_
      refine ev_aload_n rfl rfl rfl ?_
      refine ev_getI rfl rfl fl_X10_19 rfl rfl rfl ?_
      try simp only [fV]
      refine ev_icmp_gt rfl rfl (fun z_ => absurd z_ (show ¬ nI V < nI p from fun z => absurd ((nI_lt2 (by omega) (by omega)).mp z) (by omega))) (fun c_97 => ?_)
      refine ev_aload_n rfl rfl rfl ?_
      refine ev_getR rfl rfl fl_X10_85 rfl rfl rfl rfl ?_
      refine ev_aload_n rfl rfl rfl ?_
      refine ev_iload rfl rfl rfl ?_
      refine ev_iload rfl rfl rfl ?_
      refine ev_iload rfl rfl rfl ?_
      refine ev_V3D rfl rfl lk_X10_293 vt_X10_spot rfl rfl rfl rfl rfl (c_spotE L b _ i 0 p) ?_
      refine ev_zald rfl rfl rfl (vp_in_nI (by omega) (by decide)) (nI_clamp (by omega)) ?_
      try simp only [fV]
      refine ev_if_eq rfl rfl (fun c_115 => ?_) (fun c_115 => ?_)
      · refine ev_iinc (y := 1) rfl rfl rfl (by decide) rfl rfl ?_
        dsimp only [List.set]
        refine ev_goto rfl rfl ?_
        rw [nI_1 p]
        refine ih (p + 1) F (by omega) hF (fun i' r' p' a1 a2 a3 a4 a5 => ?_) e0
        by_cases e : i' = i ∧ r' = 0 ∧ p' = p
        · obtain ⟨rfl, rfl, rfl⟩ := e
          exact absurd ((hF.2 84 _ rfl).symm.trans c_115) a5
        · exact e1 i' r' p' a1 a2 a3 (by omega) a5
      · have hm : mt h i 0 p := fun z => c_115 ((hF.2 84 _ rfl).trans z)
        have bS : (q_vS 16 N ((q_TT 16 N A (M - (i + 1)) (i + 1)) 0) p (A i p)) ≤ 16 * 12 + 5000 := q_wr_le (bT 0) _
        have bl : (q_bsx (q_wr 16 N ((q_TT 16 N A (M - (i + 1)) (i + 1)) 0) p) (A i p)) < 4096 := Nat.lt_of_le_of_lt (q_bst_sub _ _ _).2 (Nat.lt_of_lt_of_le (bA i hi p) p12)
        have bt : q_nx 16 N (q_TT 16 N A (M - (i + 1)) (i + 1)) (A i) 0 p ≤ 192 * (24 - i) := by
          have z := q_TT_le (K := 16) (N := N) (A := A) (M - i) i 0 p
          rw [tt_u 16 N A hi] at z
          omega
        refine ev_aload_n rfl rfl rfl ?_
        refine ev_iload rfl rfl rfl ?_
        refine ev_iload rfl rfl rfl ?_
        refine ev_iload rfl rfl rfl ?_
        refine ev_iload rfl rfl rfl ?_
        refine ev_V4D rfl rfl lk_X10_311 vt_X10_bestSound rfl rfl rfl rfl rfl (EvD.to (c_bestSound L b F m hm0 D N (fun p y hy => by rw [zth_congr (hF.2 63 2 rfl) (hF.2 63 3 rfl)]; exact hN p y hy) (fun p y => Nat.le_trans (hNV p y) hV) (c i) (a p) (A i p) (hA _ _) (bA i (by omega) _) i (by omega) 0 (by omega) p (by omega) ((hF.2 81 _ rfl).trans (e81 _ (by omega))) (fun x hx => (hF.2 82 _ rfl).trans (e82 x hx)) (fun x hx => (hF.2 83 _ rfl).trans (e83 x hx)) ((q_TT 16 N A (M - (i + 1)) (i + 1)) 0) (fun q => bT 0 q) (fun y hy => e1.nx e0 hi (by omega) hR (hNV p y) hV (Or.inl (Nat.lt_succ_self i)) (C2 i 0 p hi (by omega) (by omega) hm y hy))) (show _ = nI (q_vS 16 N ((q_TT 16 N A (M - (i + 1)) (i + 1)) 0) p (A i p)) from rfl) rfl) ?_
        refine ev_istore rfl rfl rfl rfl ?_
        dsimp only [List.set]
        refine ev_iload rfl rfl rfl ?_
        refine ev_if_le rfl rfl (fun c_134 => ?_) (fun z_ => absurd (show nI 0 ≤ 0 by decide) z_)
        refine ev_iload rfl rfl rfl ?_
        refine ev_istore rfl rfl rfl rfl ?_
        dsimp only [List.set]
        refine ev_aload_n rfl rfl rfl ?_
        refine ev_getR rfl rfl fl_X10_67 rfl rfl rfl rfl ?_
        refine ev_aload_n rfl rfl rfl ?_
        refine ev_iload rfl rfl rfl ?_
        refine ev_iload rfl rfl rfl ?_
        refine ev_iload rfl rfl rfl ?_
        refine ev_V3D rfl rfl lk_X10_293 vt_X10_spot rfl rfl rfl rfl rfl (c_spotE L b _ i 0 p) ?_
        refine ev_iload rfl rfl rfl ?_
        refine ev_iload rfl rfl rfl ?_
        refine ev_icmp_le rfl rfl (fun c_191 => ?_) (fun z_ => absurd (Int32.le_refl _) z_)
        refine ev_iload rfl rfl rfl ?_
        refine ev_iast rfl rfl rfl rfl (vp_in_nI (by omega) (by decide)) (nI_clamp (by omega)) ?_
        refine ev_iinc (y := 1) rfl rfl rfl (by decide) rfl rfl ?_
        dsimp only [List.set]
        refine ev_goto rfl rfl ?_
        rw [nI_1 p]
        have eX : q_nx 16 N (q_TT 16 N A (M - (i + 1)) (i + 1)) (A i) 0 p = (q_vS 16 N ((q_TT 16 N A (M - (i + 1)) (i + 1)) 0) p (A i p)) := rfl
        refine EvQ.drop 11 (EvQ.drop 10 (ih (p + 1) (ev_set (ev_set F 63 35 (nI (q_bsx (q_wr 16 N ((q_TT 16 N A (M - (i + 1)) (i + 1)) 0) p) (A i p)))) 78 (1809 * i + 201 * 0 + p) (nI (q_vS 16 N ((q_TT 16 N A (M - (i + 1)) (i + 1)) 0) p (A i p)))) (by omega) ((hF.set rfl (B35 bl)).set rfl (bx78 (by omega) (by omega) (by omega) (by rw [← eX]; exact bt))) (fun i' r' p' a1 a2 a3 a4 a5 => ?_) (fun j hj => ?_)))
        · rw [ev_sj]
          by_cases e : (1809 * i' + 201 * r' + p') = (1809 * i + 201 * 0 + p)
          · obtain ⟨rfl, rfl, rfl⟩ := sp_inj (by omega) (by omega) (by omega) (by omega) e
            rw [if_pos rfl, tt_u 16 N A a1]
            exact congrArg nI eX.symm
          · rw [if_neg e, ev_rd2 (by decide)]
            exact e1 i' r' p' a1 a2 a3 (by
              have : ¬ (i' = i ∧ r' = 0 ∧ p' = p) := fun z => e (by rw [z.1, z.2.1, z.2.2])
              omega) a5
        · rw [ev_rd3 (by omega), ev_rd2 (by decide)]; exact e0 j hj
    | succ u =>
      refine ev_iload rfl rfl rfl ?_
      refine ev_aload_n rfl rfl rfl ?_
      refine ev_getI rfl rfl fl_X10_19 rfl rfl rfl ?_
      try simp only [fV]
      refine ev_icmp_gt rfl rfl (fun z_ => absurd z_ (show ¬ nI V < nI p from fun z => absurd ((nI_lt2 (by omega) (by omega)).mp z) (by omega))) (fun c_97 => ?_)
      refine ev_aload_n rfl rfl rfl ?_
      refine ev_getR rfl rfl fl_X10_85 rfl rfl rfl rfl ?_
      refine ev_aload_n rfl rfl rfl ?_
      refine ev_iload rfl rfl rfl ?_
      refine ev_iload rfl rfl rfl ?_
      refine ev_iload rfl rfl rfl ?_
      refine ev_V3D rfl rfl lk_X10_293 vt_X10_spot rfl rfl rfl rfl rfl (c_spotE L b _ i (u + 1) p) ?_
      refine ev_zald rfl rfl rfl (vp_in_nI (by omega) (by decide)) (nI_clamp (by omega)) ?_
      try simp only [fV]
      refine ev_if_eq rfl rfl (fun c_115 => ?_) (fun c_115 => ?_)
      · refine ev_iinc (y := 1) rfl rfl rfl (by decide) rfl rfl ?_
        dsimp only [List.set]
        refine ev_goto rfl rfl ?_
        rw [nI_1 p]
        refine ih (p + 1) F (by omega) hF (fun i' r' p' a1 a2 a3 a4 a5 => ?_) e0
        by_cases e : i' = i ∧ r' = (u + 1) ∧ p' = p
        · obtain ⟨rfl, rfl, rfl⟩ := e
          exact absurd ((hF.2 84 _ rfl).symm.trans c_115) a5
        · exact e1 i' r' p' a1 a2 a3 (by omega) a5
      · have hm : mt h i (u + 1) p := fun z => c_115 ((hF.2 84 _ rfl).trans z)
        have bS : (q_vS 16 N ((q_TT 16 N A (M - (i + 1)) (i + 1)) (u + 1)) p (A i p)) ≤ 16 * 12 + 5000 := q_wr_le (bT (u + 1)) _
        have bl : (q_bsx (q_wr 16 N ((q_TT 16 N A (M - (i + 1)) (i + 1)) (u + 1)) p) (A i p)) < 4096 := Nat.lt_of_le_of_lt (q_bst_sub _ _ _).2 (Nat.lt_of_lt_of_le (bA i hi p) p12)
        have bt : q_nx 16 N (q_TT 16 N A (M - (i + 1)) (i + 1)) (A i) (u + 1) p ≤ 192 * (24 - i) := by
          have z := q_TT_le (K := 16) (N := N) (A := A) (M - i) i (u + 1) p
          rw [tt_u 16 N A hi] at z
          omega
        have bN : q_nx 16 N (q_TT 16 N A (M - (i + 1)) (i + 1)) (A i) u (N p 0) ≤ 16 * 12 + 5000 := q_nx_le bT _ _
        have nv0 := hNV p 0
        have g1 : F 78 (1809 * i + 201 * u + (N p 0)) = nI (q_nx 16 N (q_TT 16 N A (M - (i + 1)) (i + 1)) (A i) u (N p 0)) := by
          have z := e1 i u (N p 0) hi (by omega) nv0 (by omega) (C1 i u p hi hr (by omega) hm)
          rw [tt_u 16 N A hi] at z
          exact z
        refine ev_aload_n rfl rfl rfl ?_
        refine ev_iload rfl rfl rfl ?_
        refine ev_iload rfl rfl rfl ?_
        refine ev_iload rfl rfl rfl ?_
        refine ev_iload rfl rfl rfl ?_
        refine ev_V4D rfl rfl lk_X10_311 vt_X10_bestSound rfl rfl rfl rfl rfl (EvD.to (c_bestSound L b F m hm0 D N (fun p y hy => by rw [zth_congr (hF.2 63 2 rfl) (hF.2 63 3 rfl)]; exact hN p y hy) (fun p y => Nat.le_trans (hNV p y) hV) (c i) (a p) (A i p) (hA _ _) (bA i (by omega) _) i (by omega) (u + 1) (by omega) p (by omega) ((hF.2 81 _ rfl).trans (e81 _ (by omega))) (fun x hx => (hF.2 82 _ rfl).trans (e82 x hx)) (fun x hx => (hF.2 83 _ rfl).trans (e83 x hx)) ((q_TT 16 N A (M - (i + 1)) (i + 1)) (u + 1)) (fun q => bT (u + 1) q) (fun y hy => e1.nx e0 hi (by omega) hR (hNV p y) hV (Or.inl (Nat.lt_succ_self i)) (C2 i (u + 1) p hi (by omega) (by omega) hm y hy))) (show _ = nI (q_vS 16 N ((q_TT 16 N A (M - (i + 1)) (i + 1)) (u + 1)) p (A i p)) from rfl) rfl) ?_
        refine ev_istore rfl rfl rfl rfl ?_
        dsimp only [List.set]
        refine ev_iload rfl rfl rfl ?_
        refine ev_if_le rfl rfl (fun z_ => absurd z_ (nI_np0 (by omega))) (fun c_134 => ?_)
        have f2 : (ev_set F 63 35 (nI (q_bsx (q_wr 16 N ((q_TT 16 N A (M - (i + 1)) (i + 1)) (u + 1)) p) (A i p)))) 63 2 = F 63 2 := ev_rd3 (by decide)
        have f3 : (ev_set F 63 35 (nI (q_bsx (q_wr 16 N ((q_TT 16 N A (M - (i + 1)) (i + 1)) (u + 1)) p) (A i p)))) 63 3 = F 63 3 := ev_rd3 (by decide)
        refine ev_aload_n rfl rfl rfl ?_
        refine ev_getR rfl rfl fl_X10_67 rfl rfl rfl rfl ?_
        refine ev_aload_n rfl rfl rfl ?_
        refine ev_iload rfl rfl rfl ?_
        refine ev_iload rfl rfl rfl ?_
        refine ev_iconst (v := 1) rfl rfl (by decide) ?_
        refine ev_isub rfl rfl ?_
        rw [nI_s1]
        refine ev_aload_n rfl rfl rfl ?_
        refine ev_iload rfl rfl rfl ?_
        refine ev_aload_n rfl rfl rfl ?_
        refine ev_getR rfl rfl fl_X10_79 rfl rfl rfl rfl ?_
        refine ev_iconst (v := 0) rfl rfl (by decide) ?_
        refine ev_iadV (j := 0) (v := D 0) rfl rfl rfl (by unfold vp_in; decide) (by decide) ((ev_rd2 (by decide)).trans ((hF.2 82 0 rfl).trans (e82 0 (Nat.two_pow_pos m)))) ?_
        try simp only [fV]
        refine ev_V2D rfl rfl lk_X10_297 vt_X10_then rfl rfl rfl rfl rfl (EvD.to (c_mthen L b _ (nI p) (D 0)) (show _ = nI (N p 0) from by rw [zth_congr (f2.trans (hF.2 63 2 rfl)) (f3.trans (hF.2 63 3 rfl))]; exact (hN p 0 (Nat.two_pow_pos m)).symm) rfl) ?_
        refine ev_V3D rfl rfl lk_X10_293 vt_X10_spot rfl rfl rfl rfl rfl (c_spotE L b _ i u (N p 0)) ?_
        refine ev_iadV (j := (1809 * i + 201 * u + (N p 0))) (v := nI (q_nx 16 N (q_TT 16 N A (M - (i + 1)) (i + 1)) (A i) u (N p 0))) rfl rfl rfl (vp_in_nI (by omega) (by decide)) (nI_clamp (by omega)) ((ev_rd2 (by decide)).trans g1) ?_
        try simp only [fV]
        refine ev_iconst (v := 1) rfl rfl (by decide) ?_
        refine ev_isub rfl rfl ?_
        refine ev_goto rfl rfl ?_
        refine ev_istore rfl rfl rfl rfl ?_
        dsimp only [List.set]
        refine ev_aload_n rfl rfl rfl ?_
        refine ev_getR rfl rfl fl_X10_67 rfl rfl rfl rfl ?_
        refine ev_aload_n rfl rfl rfl ?_
        refine ev_iload rfl rfl rfl ?_
        refine ev_iload rfl rfl rfl ?_
        refine ev_iload rfl rfl rfl ?_
        refine ev_V3D rfl rfl lk_X10_293 vt_X10_spot rfl rfl rfl rfl rfl (c_spotE L b _ i (u + 1) p) ?_
        refine ev_iload rfl rfl rfl ?_
        refine ev_iload rfl rfl rfl ?_
        refine ev_icmp_le rfl rfl (fun c_191 => ?_) (fun c_191 => ?_)
        · refine ev_iload rfl rfl rfl ?_
          refine ev_iast rfl rfl rfl rfl (vp_in_nI (by omega) (by decide)) (nI_clamp (by omega)) ?_
          refine ev_iinc (y := 1) rfl rfl rfl (by decide) rfl rfl ?_
          dsimp only [List.set]
          refine ev_goto rfl rfl ?_
          rw [nI_1 p]
          have eX : q_nx 16 N (q_TT 16 N A (M - (i + 1)) (i + 1)) (A i) (u + 1) p = (q_vS 16 N ((q_TT 16 N A (M - (i + 1)) (i + 1)) (u + 1)) p (A i p)) := mx_le (by omega) (by omega) c_191
          refine EvQ.drop 11 (EvQ.drop 10 (ih (p + 1) (ev_set (ev_set F 63 35 (nI (q_bsx (q_wr 16 N ((q_TT 16 N A (M - (i + 1)) (i + 1)) (u + 1)) p) (A i p)))) 78 (1809 * i + 201 * (u + 1) + p) (nI (q_vS 16 N ((q_TT 16 N A (M - (i + 1)) (i + 1)) (u + 1)) p (A i p)))) (by omega) ((hF.set rfl (B35 bl)).set rfl (bx78 (by omega) (by omega) (by omega) (by rw [← eX]; exact bt))) (fun i' r' p' a1 a2 a3 a4 a5 => ?_) (fun j hj => ?_)))
          · rw [ev_sj]
            by_cases e : (1809 * i' + 201 * r' + p') = (1809 * i + 201 * (u + 1) + p)
            · obtain ⟨rfl, rfl, rfl⟩ := sp_inj (by omega) (by omega) (by omega) (by omega) e
              rw [if_pos rfl, tt_u 16 N A a1]
              exact congrArg nI eX.symm
            · rw [if_neg e, ev_rd2 (by decide)]
              exact e1 i' r' p' a1 a2 a3 (by
                have : ¬ (i' = i ∧ r' = (u + 1) ∧ p' = p) := fun z => e (by rw [z.1, z.2.1, z.2.2])
                omega) a5
          · rw [ev_rd3 (by omega), ev_rd2 (by decide)]; exact e0 j hj
        · refine ev_iload rfl rfl rfl ?_
          refine ev_goto rfl rfl ?_
          refine ev_iast rfl rfl rfl rfl (vp_in_nI (by omega) (by decide)) (nI_clamp (by omega)) ?_
          refine ev_iinc (y := 1) rfl rfl rfl (by decide) rfl rfl ?_
          dsimp only [List.set]
          refine ev_goto rfl rfl ?_
          rw [nI_1 p]
          have eX : q_nx 16 N (q_TT 16 N A (M - (i + 1)) (i + 1)) (A i) (u + 1) p = max (q_vS 16 N ((q_TT 16 N A (M - (i + 1)) (i + 1)) (u + 1)) p (A i p)) (q_nx 16 N (q_TT 16 N A (M - (i + 1)) (i + 1)) (A i) u (N p 0) - 1) := rfl
          rw [mx_gt (by omega) (by omega) c_191]
          refine EvQ.drop 11 (EvQ.drop 10 (ih (p + 1) (ev_set (ev_set F 63 35 (nI (q_bsx (q_wr 16 N ((q_TT 16 N A (M - (i + 1)) (i + 1)) (u + 1)) p) (A i p)))) 78 (1809 * i + 201 * (u + 1) + p) (nI (max (q_vS 16 N ((q_TT 16 N A (M - (i + 1)) (i + 1)) (u + 1)) p (A i p)) (q_nx 16 N (q_TT 16 N A (M - (i + 1)) (i + 1)) (A i) u (N p 0) - 1)))) (by omega) ((hF.set rfl (B35 bl)).set rfl (bx78 (by omega) (by omega) (by omega) (by rw [← eX]; exact bt))) (fun i' r' p' a1 a2 a3 a4 a5 => ?_) (fun j hj => ?_)))
          · rw [ev_sj]
            by_cases e : (1809 * i' + 201 * r' + p') = (1809 * i + 201 * (u + 1) + p)
            · obtain ⟨rfl, rfl, rfl⟩ := sp_inj (by omega) (by omega) (by omega) (by omega) e
              rw [if_pos rfl, tt_u 16 N A a1]
              exact congrArg nI eX.symm
            · rw [if_neg e, ev_rd2 (by decide)]
              exact e1 i' r' p' a1 a2 a3 (by
                have : ¬ (i' = i ∧ r' = (u + 1) ∧ p' = p) := fun z => e (by rw [z.1, z.2.1, z.2.2])
                omega) a5
          · rw [ev_rd3 (by omega), ev_rd2 (by decide)]; exact e0 j hj

set_option maxRecDepth 100000 in
set_option maxHeartbeats 4000000 in
theorem l_m81 (L : Nat) (b : Bool) (h : Hp) (V : Nat) (hV : V ≤ 200) (eV : h 63 3 = nI V) (m : Nat) (hm0 : m ≤ 12) (D : Nat → Int32) (N : Nat → Nat → Nat) (hN : ∀ p y, y < 2 ^ m → nI (N p y) = zth h (nI p) (D y)) (hNV : ∀ p y, N p y ≤ V) (R : Nat) (hR : R ≤ 8) (c : Nat → Nat) (M : Nat) (hM : M ≤ 24) (a : Nat → Nat) (A : Nat → Nat → Nat) (hA : ∀ i p, c i &&& a p = A i p) (bA : ∀ i, i < M → ∀ p, A i p < 2 ^ m) (n : Nat) (hn : n < 6) (k : Int32) (e74 : ∀ i, i < M → z_mv2 (h 74 (24 * n + i)) k = nI (c i)) (e81 : ∀ p, p ≤ V → h 81 p = nI (a p)) (e82 : ∀ x, x < 2 ^ m → h 82 x = D x) (e83 : ∀ x, x < 2 ^ m → h 83 x = nI (q_pop x)) (C1 : ∀ i r p, i < M → r + 1 ≤ R → p ≤ V → mt h i (r + 1) p → mt h i r (N p 0)) (C2 : ∀ i r p, i < M → r ≤ R → p ≤ V → mt h i r p → ∀ y, y &&& A i p = y → mt h (i + 1) r (N p y)) (d : Int32) (i : Nat) (hi : i < M) (Q : Pst) (kk : ∀ F : Hp, JW [(63, 35), (78, 999)] h F → mTB h F N A M R V (fun i' r' p' => i ≤ i') → (∀ j, j < 1809 → F 78 (1809 * M + j) = 0) → EvQ mi_X10_fills 214 [some (.ref 63), some (.int (nI n)), some (.int k), some (.int d), some (.int (nI R)), some (.int (nI M)), some (.int (nI i)), some (.int (nI (c i))), some (.int (nI (R + 1))), none, none, none] [] (G0 L b) F 0 0 Q) : ∀ (t r : Nat) (F : Hp), r + t = R + 1 → JW [(63, 35), (78, 999)] h F → mTB h F N A M R V (fun i' r' p' => i < i' ∨ (i' = i ∧ r' < r)) → (∀ j, j < 1809 → F 78 (1809 * M + j) = 0) → EvQ mi_X10_fills 81 [some (.ref 63), some (.int (nI n)), some (.int k), some (.int d), some (.int (nI R)), some (.int (nI M)), some (.int (nI i)), some (.int (nI (c i))), some (.int (nI r)), none, none, none] [] (G0 L b) F 0 0 Q := by
  intro t
  induction t with
  | zero =>
    intro r F hr hF e1 e0
    have hr2 : r = R + 1 := by omega
    subst hr2
    refine ev_iload rfl rfl rfl ?_
    refine ev_iload rfl rfl rfl ?_
    refine ev_icmp_gt rfl rfl (fun c_85 => ?_) (fun z_ => absurd (show nI R < nI (R + 1) from (nI_lt2 (by omega) (by omega)).mpr (by omega)) z_)
    exact kk F hF (e1.of (fun i' r' p' a1 a2 a3 a4 => by omega)) e0
  | succ t ih =>
    intro r F hr hF e1 e0
    refine ev_iload rfl rfl rfl ?_
    refine ev_iload rfl rfl rfl ?_
    refine ev_icmp_gt rfl rfl (fun z_ => absurd z_ (show ¬ nI R < nI r from fun z => absurd ((nI_lt2 (by omega) (by omega)).mp z) (by omega))) (fun c_85 => ?_)
    refine ev_iconst (v := 0) rfl rfl (by decide) ?_
    refine ev_istore rfl rfl rfl rfl ?_
    dsimp only [List.set]
    refine l_m91 L b h V hV eV m hm0 D N hN hNV R hR c M hM a A hA bA n hn k e74 e81 e82 e83 C1 C2 d i hi r (by omega) _ (fun F2 hF2 g1 g0 => ?_) (V + 1) 0 F (by omega) hF (e1.of (fun i' r' p' a1 a2 a3 a4 => by omega)) e0
    refine ev_iinc (y := 1) rfl rfl rfl (by decide) rfl rfl ?_
    dsimp only [List.set]
    refine ev_goto rfl rfl ?_
    rw [nI_1 r]
    exact EvQ.drop 9 (ih (r + 1) F2 (by omega) hF2 g1 g0)

set_option maxRecDepth 100000 in
set_option maxHeartbeats 4000000 in
theorem l_m59 (L : Nat) (b : Bool) (h : Hp) (V : Nat) (hV : V ≤ 200) (eV : h 63 3 = nI V) (m : Nat) (hm0 : m ≤ 12) (D : Nat → Int32) (N : Nat → Nat → Nat) (hN : ∀ p y, y < 2 ^ m → nI (N p y) = zth h (nI p) (D y)) (hNV : ∀ p y, N p y ≤ V) (R : Nat) (hR : R ≤ 8) (c : Nat → Nat) (M : Nat) (hM : M ≤ 24) (a : Nat → Nat) (A : Nat → Nat → Nat) (hA : ∀ i p, c i &&& a p = A i p) (bA : ∀ i, i < M → ∀ p, A i p < 2 ^ m) (n : Nat) (hn : n < 6) (k : Int32) (e74 : ∀ i, i < M → z_mv2 (h 74 (24 * n + i)) k = nI (c i)) (e81 : ∀ p, p ≤ V → h 81 p = nI (a p)) (e82 : ∀ x, x < 2 ^ m → h 82 x = D x) (e83 : ∀ x, x < 2 ^ m → h 83 x = nI (q_pop x)) (C1 : ∀ i r p, i < M → r + 1 ≤ R → p ≤ V → mt h i (r + 1) p → mt h i r (N p 0)) (C2 : ∀ i r p, i < M → r ≤ R → p ≤ V → mt h i r p → ∀ y, y &&& A i p = y → mt h (i + 1) r (N p y)) (d : Int32) (Q : Pst) (kk : ∀ F : Hp, JW [(63, 35), (78, 999)] h F → mTB h F N A M R V (fun i' r' p' => True) → (∀ j, j < 1809 → F 78 (1809 * M + j) = 0) → EvQ mi_X10_fills 220 [some (.ref 63), some (.int (nI n)), some (.int k), some (.int d), some (.int (nI R)), some (.int (nI M)), none, none, none, none, none, none] [] (G0 L b) F 0 0 Q) : ∀ (t : Nat) (F : Hp), t ≤ M → JW [(63, 35), (78, 999)] h F → mTB h F N A M R V (fun i' r' p' => t ≤ i') → (∀ j, j < 1809 → F 78 (1809 * M + j) = 0) → EvQ mi_X10_fills 59 [some (.ref 63), some (.int (nI n)), some (.int k), some (.int d), some (.int (nI R)), some (.int (nI M)), some (.int (nI t - 1)), none, none, none, none, none] [] (G0 L b) F 0 0 Q := by
  intro t
  induction t with
  | zero =>
    intro F ht hF e1 e0
    refine ev_iload rfl rfl rfl ?_
    refine ev_if_lt rfl rfl (fun c_61 => ?_) (fun z_ => absurd (show nI 0 - 1 < 0 by decide) z_)
    exact EvQ.drop 6 (kk F hF (e1.of (fun i' r' p' a1 a2 a3 a4 => Nat.zero_le _)) e0)
  | succ t ih =>
    intro F ht hF e1 e0
    rw [nI_s1]
    refine ev_iload rfl rfl rfl ?_
    refine ev_if_lt rfl rfl (fun z_ => absurd z_ (nI_nng (by omega))) (fun c_61 => ?_)
    refine ev_aload_n rfl rfl rfl ?_
    refine ev_aload_n rfl rfl rfl ?_
    refine ev_iload_n rfl rfl rfl ?_
    refine ev_iload rfl rfl rfl ?_
    refine ev_V2D rfl rfl lk_X10_263 vt_X10_chordAt rfl rfl rfl rfl rfl (EvD.to (c_mchordAt L b F n hn t (by omega)) (hF.2 74 _ rfl) rfl) ?_
    refine ev_iload_n rfl rfl rfl ?_
    refine ev_V2D rfl rfl lk_X10_276 vt_X10_moved rfl rfl rfl rfl rfl (EvD.to (c_mmoved L b F _ k) (e74 t (by omega)) rfl) ?_
    refine ev_istore rfl rfl rfl rfl ?_
    dsimp only [List.set]
    refine ev_iconst (v := 0) rfl rfl (by decide) ?_
    refine ev_istore rfl rfl rfl rfl ?_
    dsimp only [List.set]
    refine l_m81 L b h V hV eV m hm0 D N hN hNV R hR c M hM a A hA bA n hn k e74 e81 e82 e83 C1 C2 d t (by omega) _ (fun F2 hF2 g1 g0 => ?_) (R + 1) 0 F (by omega) hF (e1.of (fun i' r' p' a1 a2 a3 a4 => by omega)) e0
    refine ev_iincL (y := -1) (v := nI t - 1) rfl rfl rfl (by decide) rfl rfl (nI_e1 t) ?_
    dsimp only [List.set]
    refine ev_goto rfl rfl ?_
    exact EvQ.drop 8 (EvQ.drop 7 (ih F2 (by omega) hF2 g1 g0))
