def mN (h : Hp) (m : Nat) : Nat → Nat → Nat := NN (h 63 3) (h 63 2) (fun y => s_md h (nI y) m)
theorem zth_NN {g : Hp} (h3 : B (g 63 3) 0 200) (p d : Int32) : zth g p d = z_min (g 63 3) (z_max 0 (p + 2 * g 63 2 - d)) := by
  have e0 : (0 : Int32).toInt = 0 := by decide
  have v1 := h3.1
  unfold zth z_max z_min
  by_cases c : 0 ≤ p + 2 * g 63 2 - d
  · have c1 := w_le c
    rw [if_pos c]
    by_cases c2 : 0 < p + 2 * g 63 2 - d
    · rw [if_pos c2]
      by_cases q : p + 2 * g 63 2 - d ≤ g 63 3
      · rw [if_pos q]
        have q1 := w_le q
        by_cases q2 : p + 2 * g 63 2 - d < g 63 3
        · rw [if_pos q2]
        · rw [if_neg q2]
          have := w_nlt q2
          exact Int32.toInt_inj.mp (by omega)
      · rw [if_neg q, if_neg (fun z => q (Int32.le_of_lt z))]
    · rw [if_neg c2]
      have c3 := w_nlt c2
      have ez : p + 2 * g 63 2 - d = 0 := Int32.toInt_inj.mp (by omega)
      rw [ez]
      have q : (0 : Int32) ≤ g 63 3 := Int32.le_iff_toInt_le.mpr (by omega)
      rw [if_pos q]
      by_cases q2 : (0 : Int32) < g 63 3
      · rw [if_pos q2]
      · rw [if_neg q2]
        have := w_nlt q2
        exact Int32.toInt_inj.mp (by omega)
  · rw [if_neg c]
    have c1 := w_nle c
    rw [if_neg (show ¬ 0 < p + 2 * g 63 2 - d from fun z => by have := w_lt z; omega)]
    by_cases q2 : (0 : Int32) < g 63 3
    · rw [if_pos q2]
    · rw [if_neg q2]
      have := w_nlt q2
      exact Int32.toInt_inj.mp (by omega)
theorem enf_sb {al : Nat} (hal : al < 4096) : ∀ j, EnF (nI al) (nI al) (nI (sbm al j))
  | 0 => EnF.refl _ _
  | j + 1 => by
    have ih := enf_sb hal j
    by_cases z : sbm al j = 0
    · rw [show sbm al (j + 1) = 0 from sbm_z (Nat.le_succ j) z, ← z]
      exact ih
    · have := ih.snoc (nI_z (by have := sbm_12 hal j; omega) z)
      rw [sbm_nx hal z] at this
      exact this
theorem met_n {z : Hp} {i r p : Nat} : met z (i : Int) (r : Int) (p : Int) ↔ mt z i r p := by
  unfold met mt
  rw [show sx (i : Int) (r : Int) (p : Int) = 1809 * i + 201 * r + p from by unfold sx; omega]
theorem th_n {g : Hp} {p : Nat} (hp : p ≤ 200) (d : Int32) : th g (p : Int) d = (zth g (nI p) d).toInt := by
  rw [← th_eq, nI_toInt (by omega)]
theorem gi_C {g z : Hp} {n : Nat} (en : (nI n).toNatClampNeg = n) {k : Int32} {R M V m : Nat} (hV : V ≤ 200) (eV : g 63 3 = nI V) (hM : M ≤ 24) (e73 : g 73 n = nI M) {D : Nat → Int32} {N : Nat → Nat → Nat} (hN : ∀ p y, y < 2 ^ m → nI (N p y) = zth g (nI p) (D y)) (hNV : ∀ p y, N p y ≤ V) {c a : Nat → Nat} {A : Nat → Nat → Nat} (hA : ∀ i p, c i &&& a p = A i p) (bA : ∀ i, i < M → ∀ p, A i p < 2 ^ m) (hm0 : m ≤ 12) (e74 : ∀ i, i < M → z_mv2 (g 74 (24 * n + i)) k = nI (c i)) (e81 : ∀ p, p ≤ V → g 81 p = nI (a p)) (e82 : ∀ x, x < 2 ^ m → g 82 x = D x) {p0 : Nat} (hp0 : p0 ≤ V) (e20 : g 63 0 = nI p0) (G : GI g z (nI n) k (R : Int) (g 73 (nI n).toNatClampNeg).toInt 9 0) : mt z 0 R p0 ∧ (∀ i r p, i < M → r + 1 ≤ R → p ≤ V → mt z i (r + 1) p → mt z i r (N p 0)) ∧ ∀ i r p, i < M → r ≤ R → p ≤ V → mt z i r p → ∀ y, y &&& A i p = y → mt z (i + 1) r (N p y) := by
  have p12 : 2 ^ m ≤ 4096 := (Nat.pow_le_pow_right (n := 2) (by decide) hm0 : 2 ^ m ≤ 2 ^ 12)
  obtain ⟨G1, G2⟩ := G
  rw [en, e73, nI_toInt (by omega)] at G2
  rw [eV, nI_toInt (by omega)] at G2
  have thN : ∀ p y, p ≤ V → y < 2 ^ m → th g (p : Int) (g 82 y) = (N p y : Int) := fun p y hp hy => by
    have nv := hNV p y
    rw [th_n (by omega), e82 y hy, ← hN p y hy, nI_toInt (by omega)]
  refine ⟨?_, fun i r p hi hr hp hm => ?_, fun i r p hi hr hp hm y hy => ?_⟩
  · rw [e20, nI_toInt (by omega)] at G1
    exact met_n.mp G1
  · have q := (G2 (i : Int) ((r + 1 : Nat) : Int) (p : Int) (by omega) (by omega) (by omega) (by omega) (by omega) (by omega) (Or.inl (by omega)) (met_n.mpr hm)).1 (by omega)
    rw [thN p 0 hp (Nat.two_pow_pos m), show ((r + 1 : Nat) : Int) - 1 = (r : Int) by omega] at q
    exact met_n.mp q
  · obtain ⟨j, -, rfl⟩ := sbm_all hy (sbm_last (A i p))
    have la := bA i hi p
    have ls : sbm (A i p) j < 2 ^ m := Nat.lt_of_le_of_lt (sbm_le _ _) la
    have q := (G2 (i : Int) (r : Int) (p : Int) (by omega) (by omega) (by omega) (by omega) (by omega) (by omega) (Or.inl (by omega)) (met_n.mpr hm)).2 (nI (sbm (A i p) j)) (by
      have e : alp g (nI n) k (i : Int) (p : Int) = nI (A i p) := by
        unfold alp chd
        rw [en, Int.toNat_natCast, Int.toNat_natCast, e74 i hi, e81 p hp, nI_and, hA]
      rw [e]
      exact enf_sb (by omega) j)
    rw [nI_clamp (by omega), thN p _ hp ls, show (i : Int) + 1 = ((i + 1 : Nat) : Int) by omega] at q
    exact met_n.mp q

set_option maxRecDepth 100000 in
set_option maxHeartbeats 4000000 in
theorem l_m24 (L : Nat) (b : Bool) (h : Hp) (n : Nat) (k d : Int32) (R M : Nat) (hM : M ≤ 24) (Q : Pst) (kk : ∀ F : Hp, JW [(78, 999)] h F → (∀ j, j < 1809 → F 78 (1809 * M + j) = 0) → EvQ mi_X10_fills 53 [some (.ref 63), some (.int (nI n)), some (.int k), some (.int d), some (.int (nI R)), some (.int (nI M)), none, none, none, none, none, none] [] (G0 L b) F 0 0 Q) : ∀ (t c : Nat) (F : Hp), c + t = 1809 → JW [(78, 999)] h F → (∀ j, j < c → F 78 (1809 * M + j) = 0) → EvQ mi_X10_fills 24 [some (.ref 63), some (.int (nI n)), some (.int k), some (.int d), some (.int (nI R)), some (.int (nI M)), some (.int (nI c)), none, none, none, none, none] [] (G0 L b) F 0 0 Q := by
  intro t
  induction t with
  | zero =>
    intro c F hc hF e0
    have hc2 : c = 1809 := by omega
    subst hc2
    refine ev_iload rfl rfl rfl ?_
    refine ev_sipush (v := 1809) rfl rfl (by decide) ?_
    refine ev_icmp_ge rfl rfl (fun c_29 => ?_) (fun z_ => absurd (show (1809 : Int32) ≤ nI 1809 by decide) z_)
    exact EvQ.drop 6 (kk F hF e0)
  | succ t ih =>
    intro c F hc hF e0
    refine ev_iload rfl rfl rfl ?_
    refine ev_sipush (v := 1809) rfl rfl (by decide) ?_
    refine ev_icmp_ge rfl rfl (fun z_ => absurd z_ (show ¬ nI 1809 ≤ nI c from nI_ge (by omega) (by omega))) (fun c_29 => ?_)
    refine ev_aload_n rfl rfl rfl ?_
    refine ev_getR rfl rfl fl_X10_67 rfl rfl rfl rfl ?_
    refine ev_sipush (v := 1809) rfl rfl (by decide) ?_
    refine ev_iload rfl rfl rfl ?_
    refine ev_imulV (v := nI (1809 * M)) (nI_mul 1809 M).symm rfl rfl ?_
    refine ev_iload rfl rfl rfl ?_
    refine ev_iaddV (v := nI (1809 * M + c)) (nI_ad _ _).symm rfl rfl ?_
    refine ev_iconst (v := 0) rfl rfl (by decide) ?_
    refine ev_iast rfl rfl rfl rfl (vp_in_nI (by omega) (by decide)) (nI_clamp (by omega)) ?_
    refine ev_iinc (y := 1) rfl rfl rfl (by decide) rfl rfl ?_
    dsimp only [List.set]
    refine ev_goto rfl rfl ?_
    rw [nI_1 c]
    refine ih (c + 1) _ (by omega) (hF.set rfl ?_) (fun j hj => ?_)
    · have z := bx78 (i := M) (r := c / 201) (p := c % 201) (x := 0) (by omega) (by omega) hM (Nat.zero_le _)
      rw [show 1809 * M + 201 * (c / 201) + c % 201 = 1809 * M + c by omega] at z
      exact z
    · rw [ev_sj]
      by_cases e : 1809 * M + j = 1809 * M + c
      · rw [if_pos e]
      · rw [if_neg e]; exact e0 j (by omega)

set_option maxRecDepth 100000 in
set_option maxHeartbeats 4000000 in
theorem c_mfills (L : Nat) (b : Bool) (h : Hp) (hB : Bx h) (V : Nat) (hV : V ≤ 200) (eV : h 63 3 = nI V) (m : Nat) (hm0 : m ≤ 12) (hm : h 63 5 = nI m) (n : Nat) (hn : n < 6) (M : Nat) (hM : M ≤ 24) (e73 : h 73 n = nI M) (k d : Int32) (R : Nat) (hR : R ≤ 8) (c : Nat → Nat) (e74 : ∀ i, i < M → z_mv2 (h 74 (24 * n + i)) k = nI (c i)) (bc : ∀ i, i < M → c i < 2 ^ m) (A : Nat → Nat → Nat) (hA : ∀ i p, c i &&& mR h m d p = A i p) (p0 : Nat) (hp0 : p0 ≤ V) (e20 : h 63 0 = nI p0)  : EvK mi_X10_fills [.ref 63, .int (nI n), .int k, .int d, .int (nI R)] (G0 L b) h (fun z => z 63 36 = nI (q_fo 16 (mN h m) A M R p0 M).2.2 ∧ z 63 37 = nI (q_fo 16 (mN h m) A M R p0 M).2.1 ∧ ∀ j, j < M → z 79 j = nI (q_fsd 16 (mN h m) A M R p0 j) ∧ z 80 j = nI (q_fah 16 (mN h m) A M R p0 j)) [(63, 35), (63, 36), (63, 37), (78, 999), (79, 999), (80, 999), (81, 999), (82, 999), (83, 999), (84, 999)] := by
  have hN : ∀ p y, nI ((mN h m) p y) = zth h (nI p) (s_md h (nI y) m) := fun p y => by
    rw [zth_NN (hB 63 3)]
    exact (NN_sp (h 63 2) (fun y => s_md h (nI y) m) (hB 63 3) p y).1
  have hNV : ∀ p y, (mN h m) p y ≤ V := fun p y => by
    have z := (NN_sp (h 63 2) (fun y => s_md h (nI y) m) (hB 63 3) p y).2
    have e : (h 63 3).toNatClampNeg = V := by rw [eV]; exact nI_clamp (by omega)
    exact Nat.le_trans z (Nat.le_of_eq e)
  have bA : ∀ i, i < M → ∀ p, A i p < 2 ^ m := fun i hi p => by
    rw [← hA]
    exact Nat.lt_of_le_of_lt Nat.and_le_left (bc i hi)
  refine EvM.of2 (lo := [some (.ref 63), some (.int (nI n)), some (.int k), some (.int d), some (.int (nI R)), none, none, none, none, none, none, none]) pf_X10_fills ok_X10_fills rfl rfl ?_
  refine ev_aload_n rfl rfl rfl ?_
  refine ev_getR rfl rfl fl_X10_51 rfl rfl rfl rfl ?_
  refine ev_iload_n rfl rfl rfl ?_
  refine ev_iald rfl rfl rfl (vp_in_nI (by omega) (by decide)) (nI_clamp (by omega)) ?_
  try simp only [e73]
  refine ev_istore rfl rfl rfl rfl ?_
  dsimp only [List.set]
  refine ev_aload_n rfl rfl rfl ?_
  refine ev_iload_n rfl rfl rfl ?_
  refine ev_V1K (W := [(63, 35), (63, 36), (63, 37), (78, 999), (79, 999), (80, 999), (81, 999), (82, 999), (83, 999), (84, 999)]) (JW.refl hB) rfl rfl rfl lk_X10_304 vt_X10_prepares rfl rfl rfl rfl rfl (c_mprep L b h hB m hm0 hm V hV eV d) (fun F1 hg1 k1 q1 => ?_)
  refine ev_aload_n rfl rfl rfl ?_
  refine ev_iload_n rfl rfl rfl ?_
  refine ev_iload_n rfl rfl rfl ?_
  refine ev_iload rfl rfl rfl ?_
  refine ev_V3K hg1 rfl rfl rfl lk_X10_307 vt_X10_meets rfl rfl rfl rfl rfl (w_X10_meets_63 L b F1 hg1.1 (nI n) (nI_B (u := 5) (by omega) (by omega)) k (nI R) (nI_B (u := 8) (by omega) (by omega))) (fun F2 hg2 k2 q2 => ?_)
  refine ev_iconst (v := 0) rfl rfl (by decide) ?_
  refine ev_istore rfl rfl rfl rfl ?_
  dsimp only [List.set]
  have e8 : ∀ x, x < 2 ^ m → F1 82 x = s_md h (nI x) m ∧ F1 83 x = nI (q_pop x) := fun x hx => ⟨((q1.2 x hx).1).trans (dx_md h x hm0), (q1.2 x hx).2⟩
  rw [nI_toInt (by omega)] at q2
  obtain ⟨G0z, G1, G2⟩ := gi_C (nI_clamp (by omega)) hV ((hg1.2 63 3 rfl).trans eV) hM ((hg1.2 73 n rfl).trans e73) (D := fun y => s_md h (nI y) m) (N := (mN h m)) (fun p y _ => by rw [zth_congr (hg1.2 63 2 rfl) (hg1.2 63 3 rfl)]; exact hN p y) hNV hA bA hm0 (fun i hi => by rw [hg1.2 74 _ rfl]; exact e74 i hi) q1.1 (fun x hx => (e8 x hx).1) hp0 ((hg1.2 63 0 rfl).trans e20) q2
  have G0_ := G0z
  refine l_m24 L b F2 n k d R M hM _ (fun F3 k3 e30 => ?_) 1809 0 F2 (by omega) (JW.refl k2.1) (fun j hj => absurd hj (Nat.not_lt_zero _))
  have hg3 : JW [(63, 35), (63, 36), (63, 37), (78, 999), (79, 999), (80, 999), (81, 999), (82, 999), (83, 999), (84, 999)] h F3 := hg2.call k3 rfl
  have m3 : ∀ i r p, mt F3 i r p ↔ mt F2 i r p := fun i r p => by
    unfold mt
    rw [k3.2 84 _ rfl]
  refine ev_iload rfl rfl rfl ?_
  refine ev_iconst (v := 1) rfl rfl (by decide) ?_
  refine ev_isub rfl rfl ?_
  refine ev_istore rfl rfl rfl rfl ?_
  dsimp only [List.set]
  refine l_m59 L b F3 V hV ((hg3.2 63 3 rfl).trans eV) m hm0 (fun y => s_md h (nI y) m) (mN h m) (fun p y _ => by rw [zth_congr (hg3.2 63 2 rfl) (hg3.2 63 3 rfl)]; exact hN p y) hNV R hR c M hM (mR h m d) A hA bA n hn k (fun i hi => by rw [hg3.2 74 _ rfl]; exact e74 i hi) (fun p hp => (k3.2 81 p rfl).trans ((k2.2 81 p rfl).trans (q1.1 p hp))) (fun x hx => (k3.2 82 x rfl).trans ((k2.2 82 x rfl).trans (e8 x hx).1)) (fun x hx => (k3.2 83 x rfl).trans ((k2.2 83 x rfl).trans (e8 x hx).2)) (fun i r p a1 a2 a3 a4 => (m3 _ _ _).mpr (G1 i r p a1 a2 a3 ((m3 _ _ _).mp a4))) (fun i r p a1 a2 a3 a4 y hy => (m3 _ _ _).mpr (G2 i r p a1 a2 a3 ((m3 _ _ _).mp a4) y hy)) d _ (fun F4 hF4 e4 e40 => ?_) M F3 (Nat.le_refl _) (JW.refl k3.1) (fun i r p a1 _ _ a4 _ => absurd a4 (by omega)) e30
  have hg4 : JW [(63, 35), (63, 36), (63, 37), (78, 999), (79, 999), (80, 999), (81, 999), (82, 999), (83, 999), (84, 999)] h F4 := hg3.call hF4 rfl
  have m4 : ∀ i r p, mt F4 i r p ↔ mt F2 i r p := fun i r p => by
    unfold mt
    rw [hF4.2 84 _ rfl, k3.2 84 _ rfl]
  have f20 : F4 63 0 = nI p0 := (hg4.2 63 0 rfl).trans e20
  refine ev_aload_n rfl rfl rfl ?_
  refine ev_getI rfl rfl fl_X10_7 rfl rfl rfl ?_
  try simp only [f20]
  refine ev_istore rfl rfl rfl rfl ?_
  dsimp only [List.set]
  refine ev_iload rfl rfl rfl ?_
  refine ev_istore rfl rfl rfl rfl ?_
  dsimp only [List.set]
  refine ev_aload_n rfl rfl rfl ?_
  refine ev_iconst (v := 0) rfl rfl (by decide) ?_
  refine ev_putI rfl rfl fl_X10_315 rfl rfl rfl rfl rfl ?_
  refine ev_iconst (v := 0) rfl rfl (by decide) ?_
  refine ev_istore rfl rfl rfl rfl ?_
  dsimp only [List.set]
  have hz := l_m238 L b F4 V hV ((hg4.2 63 3 rfl).trans eV) m hm0 (fun y => s_md h (nI y) m) (mN h m) (fun p y _ => by rw [zth_congr (hg4.2 63 2 rfl) (hg4.2 63 3 rfl)]; exact hN p y) hNV R hR c M hM (mR h m d) A hA bA n hn k (fun i hi => by rw [hg4.2 74 _ rfl]; exact e74 i hi) (fun p hp => (hF4.2 81 p rfl).trans ((k3.2 81 p rfl).trans ((k2.2 81 p rfl).trans (q1.1 p hp)))) (fun x hx => (hF4.2 82 x rfl).trans ((k3.2 82 x rfl).trans ((k2.2 82 x rfl).trans (e8 x hx).1))) (fun x hx => (hF4.2 83 x rfl).trans ((k3.2 83 x rfl).trans ((k2.2 83 x rfl).trans (e8 x hx).2))) (fun i r p a1 a2 a3 a4 => (m4 _ _ _).mpr (G1 i r p a1 a2 a3 ((m4 _ _ _).mp a4))) (fun i r p a1 a2 a3 a4 y hy => (m4 _ _ _).mpr (G2 i r p a1 a2 a3 ((m4 _ _ _).mp a4) y hy)) (fun i r p a1 a2 a3 a4 => e4 i r p a1 a2 a3 trivial ((m3 _ _ _).mpr ((m4 _ _ _).mp a4))) e40 p0 hp0 ((hg4.2 63 0 rfl).trans e20) ((m4 _ _ _).mpr G0_) d M 0 (ev_set F4 63 36 0) (by omega) ((JW.refl hF4.1).set rfl (B.any _)) (ev_rd1 _ _ _ _) (fun j hj => absurd hj (Nat.not_lt_zero _)) (fun _ => (m4 _ _ _).mpr G0_)
  refine EvQ.mono hz (Nat.le_refl _) (Nat.le_refl _) (fun v_ G_ z q_ => ?_)
  obtain ⟨rfl, rfl, j_, q_⟩ := q_
  exact ⟨rfl, rfl, hg4.call j_ rfl, q_⟩
