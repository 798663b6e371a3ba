def mC (h : Hp) (t k : Int32) (i : Nat) : Nat := (z_mv (h 74 (24 * t.toNatClampNeg + i)) k).toNatClampNeg
def mA (h : Hp) (t k d : Int32) (i p : Nat) : Nat := mC h t k i &&& mR h (h 63 5).toNatClampNeg d p
def mMn (h : Hp) (t : Int32) : Nat := (h 73 t.toNatClampNeg).toNatClampNeg
def mFo (h : Hp) (t k d R : Int32) (i : Nat) : Nat × Nat × Nat := q_fo 16 (mN h (h 63 5).toNatClampNeg) (mA h t k d) (mMn h t) R.toNatClampNeg (h 63 0).toNatClampNeg i
def mSd (h : Hp) (t k d R : Int32) (i : Nat) : Nat := q_fsd 16 (mN h (h 63 5).toNatClampNeg) (mA h t k d) (mMn h t) R.toNatClampNeg (h 63 0).toNatClampNeg i
def mAh (h : Hp) (t k d R : Int32) (i : Nat) : Nat := q_fah 16 (mN h (h 63 5).toNatClampNeg) (mA h t k d) (mMn h t) R.toNatClampNeg (h 63 0).toNatClampNeg i
def mSa (h : Hp) (t k d R : Int32) (i : Nat) : Nat := q_sah 16 (mN h (h 63 5).toNatClampNeg) (mA h t k d) (mMn h t) R.toNatClampNeg (h 63 0).toNatClampNeg i
def b_set (h : Hp) (t k d R q : Int32) : Int32 := if q < 10 then (if q = 0 then nI (mFo h t k d R (mMn h t)).2.2 else if q = 1 then nI (mSa h t k d R (mMn h t)) else nI (mFo h t k d R (mMn h t)).2.1) else if 40 ≤ q then nI (mAh h t k d R (q - 40).toNatClampNeg) else nI (mSd h t k d R (q - 10).toNatClampNeg)
def mg_told (h : Hp) (t q : Int32) : Int32 := if z_wi q 0 2 = 0 then (if z_wi q 10 (9 + h 73 t.toNatClampNeg) = 0 then (if z_wi q 40 (39 + h 73 t.toNatClampNeg) = 0 then 0 else 1) else 1) else 1
def r_mg (h : Hp) (t k d R q : Int32) : Int32 := if z_has t (h 63 23) = 0 then -1 else if z_wi k (-11) 11 = 0 then -1 else if z_wi d 0 400 = 0 then -1 else if z_wi R 0 8 = 0 then -1 else if mg_told h t q = 0 then -1 else if inM h t k = 0 then -2 else 0
def r_ms (h : Hp) (t k d R q : Int32) : Int32 := if r_mg h t k d R q = 0 then b_set h t k d R q else r_mg h t k d R q
theorem r_ms_n {h : Hp} {t k d R q v : Int32} (e : r_mg h t k d R q = v) (h0 : ¬ v = 0) : v = r_ms h t k d R q := by
  unfold r_ms
  rw [e, if_neg h0]
/-- a beat is told alike -/
theorem ib_wi {h : Hp} (hB : Bx h) {t q f : Int32} {x : Int32} {F : Int} (c0 : ¬ z_has t (h 28 2) = 0) (ef : f.toInt = F) (ex : x.toInt = F - 1) (hF : 1 ≤ F ∧ F ≤ 100) : z_isBeat h t q f = z_wi q f (x + h 36 t.toNatClampNeg) := by
  have b := hB 36 t.toNatClampNeg
  have b1 : 0 ≤ (h 36 t.toNatClampNeg).toInt := b.1
  have b2 : (h 36 t.toNatClampNeg).toInt ≤ 24 := b.2
  have ea := w_add (x := x) (y := h 36 t.toNatClampNeg) (by omega) (by omega)
  unfold z_isBeat z_wi
  rw [if_neg c0]
  by_cases c : q < f
  · rw [if_pos c, if_pos c]
  · rw [if_neg c, if_neg c]
    have cn := w_nlt c
    have hq := Int32.toInt_lt q
    have es := w_sub (x := q) (y := f) (by omega) (by omega)
    have ee : (h 36 t.toNatClampNeg ≤ q - f) ↔ (x + h 36 t.toNatClampNeg < q) := by
      rw [Int32.le_iff_toInt_le, Int32.lt_iff_toInt_lt, es, ea]
      omega
    by_cases d : h 36 t.toNatClampNeg ≤ q - f
    · rw [if_pos d, if_pos (ee.mp d)]
    · rw [if_neg d, if_neg (fun y => d (ee.mpr y))]
theorem mg_eq {h : Hp} (hB : Bx h) (hE : RE h) (hT : RTU h) (t k d R q : Int32) : r_mg h t k d R q = r_sg h t k d R q := by
  unfold r_mg r_sg
  rw [hT.2.2.1]
  by_cases c0 : z_has t (h 63 23) = 0
  · rw [if_pos c0, if_pos c0]
  rw [if_neg c0, if_neg c0]
  have c0h : ¬ z_has t (h 28 2) = 0 := by rw [hT.2.2.1]; exact c0
  obtain ⟨n, hn, rfl, en, nlt⟩ := try_pt hB hT c0h
  obtain ⟨a1, a2⟩ := hT.2.2.2 n nlt
  have et : mg_told h (nI n) q = sg_told h (nI n) q := by
    unfold mg_told sg_told
    rw [ib_wi hB c0h (f := 10) (x := 9) (F := 10) (by decide) (by decide) (by decide), ib_wi hB c0h (f := 40) (x := 39) (F := 40) (by decide) (by decide) (by decide), en, a1]
  rw [et]
  by_cases c1 : z_wi k (-11) 11 = 0
  · rw [if_pos c1, if_pos c1]
  rw [if_neg c1, if_neg c1, ((try_eq hB hE hT (nI n) k).2 c0h c1).1]
  by_cases c2 : sg_told h (nI n) q = 0
  · rw [if_pos c2, if_pos c2]
    repeat' split
    all_goals rfl
  rw [if_neg c2, if_neg c2]
/-- the problem is the same for both -/
theorem prob_eq {h : Hp} (hB : Bx h) (hE : RE h) (hT : RTU h) {t k d : Int32} (c0 : ¬ z_has t (h 28 2) = 0) : pN h = mN h (h 63 5).toNatClampNeg ∧ pM h t = mMn h t ∧ pP h = (h 63 0).toNatClampNeg ∧ (∀ i, i < mMn h t → pC h t k i = mC h t k i) ∧ ∀ p, cR h (nW h) d p = mR h (h 63 5).toNatClampNeg d p := by
  obtain ⟨⟨b0, b1, b2, b3, b4⟩, hW, -⟩ := hE
  obtain ⟨n, hn, rfl, en, nlt⟩ := try_pt hB hT c0
  obtain ⟨a1, a2⟩ := hT.2.2.2 n nlt
  have ew : nW h = (h 63 5).toNatClampNeg := by unfold nW; rw [hW.1]
  refine ⟨?_, ?_, ?_, fun i hi => ?_, fun p => ?_⟩
  · unfold pN mN
    rw [b3, b2, ← ew]
    exact congrArg (NN (h 63 3) (h 63 2)) (funext (fun y => drawn_eq (nI y) (nW h) hW.2.1))
  · unfold pM mMn
    rw [en, a1]
  · unfold pP
    rw [b0]
  · unfold pC mC
    unfold mMn at hi
    rw [en] at hi ⊢
    rw [a2 i (by rw [a1]; exact hi)]
  · unfold cR mR
    rw [ew]
    refine q_nm_cg _ (fun j hj => ?_)
    unfold cP mP
    rw [off_eq (hW.2.1 j (by rw [ew]; exact hj))]
    rfl

set_option maxRecDepth 100000 in
set_option maxHeartbeats 4000000 in
theorem l_ms171 (L : Nat) (b : Bool) (F : Hp) (n : Nat) (hn : n < 6) (k d R q : Int32) (M : Nat) (hM : M ≤ 24) (e73 : F 73 n = nI M) (s : Nat → Nat) (f : Nat → Nat) (s0 : s 0 = 0) (s1 : ∀ i, s (i + 1) = s i + f i) (e80 : ∀ i, i < M → F 80 i = nI (f i)) (hq : q < 10): ∀ t i : Nat, i + t = M → EvQ mi_X10_set 171 [some (.ref 63), some (.int (nI n)), some (.int k), some (.int d), some (.int R), some (.int q), some (.int (nI (s i))), some (.int (nI i))] [] (G0 L b) F 0 0 (fun v G' h' => v = some (.int (if q = 0 then F 63 36 else if q = 1 then nI (s M) else F 63 37)) ∧ G' = G0 L b ∧ h' = F) := by
  intro t
  induction t with
  | zero =>
    intro i hi
    have hi2 : i = M := by omega
    subst hi2
    refine ev_iload rfl rfl rfl ?_
    refine ev_aload_n rfl rfl rfl ?_
    refine ev_getR rfl rfl fl_X10_51 rfl rfl rfl rfl ?_
    refine ev_iload_n rfl rfl rfl ?_
    refine ev_iald rfl rfl rfl (vp_in_nI (by omega) (by decide)) (nI_clamp (by omega)) ?_
    try simp only [e73]
    refine ev_icmp_ge rfl rfl (fun c_179 => ?_) (fun z_ => absurd (Int32.le_refl _) z_)
    refine ev_iload rfl rfl rfl ?_
    refine ev_if_ne rfl rfl (fun c_202 => ?_) (fun c_202 => ?_)
    · refine ev_iload rfl rfl rfl ?_
      refine ev_iconst (v := 1) rfl rfl (by decide) ?_
      refine ev_icmp_ne rfl rfl (fun c_215 => ?_) (fun c_215 => ?_)
      · refine ev_aload_n rfl rfl rfl ?_
        refine ev_getI rfl rfl fl_X10_318 rfl rfl rfl ?_
        try simp only [e73]
        exact ev_iret rfl rfl rfl (⟨congrArg (fun z => some (Value.int z)) (by simp only [if_pos c_179, if_neg c_202, if_neg c_215]), rfl, rfl⟩)
      · refine ev_iload rfl rfl rfl ?_
        refine ev_goto rfl rfl ?_
        exact ev_iret rfl rfl rfl (⟨congrArg (fun z => some (Value.int z)) (by simp only [if_pos c_179, if_neg c_202, if_pos c_215]), rfl, rfl⟩)
    · refine ev_aload_n rfl rfl rfl ?_
      refine ev_getI rfl rfl fl_X10_315 rfl rfl rfl ?_
      try simp only [e73]
      refine ev_goto rfl rfl ?_
      exact ev_iret rfl rfl rfl (⟨congrArg (fun z => some (Value.int z)) (by simp only [if_pos c_179, if_pos c_202]), rfl, rfl⟩)
  | succ t ih =>
    intro i hi
    have f80 : F 80 i = nI (f i) := e80 i (by omega)
    refine ev_iload rfl rfl rfl ?_
    refine ev_aload_n rfl rfl rfl ?_
    refine ev_getR rfl rfl fl_X10_51 rfl rfl rfl rfl ?_
    refine ev_iload_n rfl rfl rfl ?_
    refine ev_iald rfl rfl rfl (vp_in_nI (by omega) (by decide)) (nI_clamp (by omega)) ?_
    try simp only [e73, f80]
    refine ev_icmp_ge rfl rfl (fun z_ => absurd z_ (nI_ge (by omega) (by omega))) (fun c_179 => ?_)
    refine ev_iload rfl rfl rfl ?_
    refine ev_aload_n rfl rfl rfl ?_
    refine ev_getR rfl rfl fl_X10_73 rfl rfl rfl rfl ?_
    refine ev_iload rfl rfl rfl ?_
    refine ev_iald rfl rfl rfl (vp_in_nI (by omega) (by decide)) (nI_clamp (by omega)) ?_
    try simp only [e73, f80]
    refine ev_iaddV (v := nI (s (i + 1))) (by rw [s1]; exact (nI_ad _ _).symm) rfl rfl ?_
    refine ev_istore rfl rfl rfl rfl ?_
    dsimp only [List.set]
    refine ev_iinc (y := 1) rfl rfl rfl (by decide) rfl rfl ?_
    dsimp only [List.set]
    refine ev_goto rfl rfl ?_
    rw [nI_1 i]
    exact ih (i + 1) (by omega)

set_option maxRecDepth 100000 in
set_option maxHeartbeats 4000000 in
theorem x_ms118 (L : Nat) (b : Bool) (h : Hp) (hB : Bx h) (hE : RE h) (hT : RTU h) (hP : RPc h) (hsv : (h 63 0).toInt ≤ (h 63 3).toInt) (n : Nat) (hn : n < 6) (en : (nI n).toNatClampNeg = n) (k d q : Int32) (R : Nat) (hR : R ≤ 8) (eR : (nI R).toNatClampNeg = R) (g0 : r_mg h (nI n) k d (nI R) q = 0)  : EvQ mi_X10_set 118 [some (.ref 63), some (.int (nI n)), some (.int k), some (.int d), some (.int (nI R)), some (.int q), none, none] [] (G0 L b) h 0 0 (QI (fun r _ => r = b_set h (nI n) k d (nI R) q) [(63, 35), (63, 36), (63, 37), (78, 999), (79, 999), (80, 999), (81, 999), (82, 999), (83, 999), (84, 999)] (G0 L b) h) := by
  have gs : r_sg h (nI n) k d (nI R) q = 0 := by rw [← mg_eq hB hE hT]; exact g0
  obtain ⟨ht, hk, htl, hg⟩ := sg_0 gs
  obtain ⟨eN, eM, eP, eC, eR_⟩ := prob_eq (k := k) (d := d) hB hE hT ht
  have lw12 : nW h ≤ 12 := (B.nI (u := 12) (hB 4 7)).2
  have ew : (h 63 5).toNatClampNeg = nW h := by unfold nW; rw [hE.2.1.1]
  have e5 : h 63 5 = nI (h 63 5).toNatClampNeg := (B.nI (u := 12) (hB 63 5)).1
  have v1 := (B.nI (u := 200) (hB 63 3)).1
  have v2 := (B.nI (u := 200) (hB 63 3)).2
  have e20 := (B.nI (u := 200) (hB 63 0)).1
  have m24 : mMn h (nI n) ≤ 24 := (B.nI (u := 24) (hB 73 _)).2
  have e73 : h 73 n = nI (mMn h (nI n)) := by
    unfold mMn
    rw [en]
    exact (B.nI (u := 24) (hB 73 n)).1
  have p0V : (h 63 0).toNatClampNeg ≤ (h 63 3).toNatClampNeg := by
    show (h 63 0).toInt.toNat ≤ (h 63 3).toInt.toNat
    omega
  have bq := told_BQ hB htl
  obtain ⟨n_, hn_, en_, en2_, nlt⟩ := try_pt hB hT ht
  rw [en] at en2_
  subst en2_
  obtain ⟨a1, a2⟩ := hT.2.2.2 n nlt
  have pc : ∀ i, i < mMn h (nI n) → z_mv (h 74 (24 * n + i)) k = nI (mC h (nI n) k i) ∧ mC h (nI n) k i < 2 ^ (h 63 5).toNatClampNeg := fun i hi => by
    have z := pC_ok hB hP ht hk hg i (by rw [eM]; exact hi)
    have y := hi
    unfold mMn at y
    rw [en] at y
    rw [en, a2 i (by rw [a1]; exact y), eC i hi] at z
    exact ⟨z.1, by rw [ew]; exact z.2.1⟩
  refine ev_aload_n rfl rfl rfl ?_
  refine ev_iload_n rfl rfl rfl ?_
  refine ev_iload_n rfl rfl rfl ?_
  refine ev_iload_n rfl rfl rfl ?_
  refine ev_iload rfl rfl rfl ?_
  refine ev_V4K (W := [(63, 35), (63, 36), (63, 37), (78, 999), (79, 999), (80, 999), (81, 999), (82, 999), (83, 999), (84, 999)]) (JW.refl hB) rfl rfl rfl lk_X10_325 vt_X10_fills rfl rfl rfl rfl rfl (c_mfills L b h hB _ v2 v1 _ (by rw [ew]; exact lw12) e5 n hn (mMn h (nI n)) m24 e73 k d R hR (mC h (nI n) k) (fun i hi => by rw [z_mv2_eq]; exact (pc i hi).1) (fun i hi => (pc i hi).2) (mA h (nI n) k d) (fun _ _ => rfl) _ p0V e20) (fun F1 k1 k1' q_ => ?_)
  obtain ⟨q1, q2, q3⟩ := q_
  have q1 : F1 63 36 = nI (mFo h (nI n) k d (nI R) (mMn h (nI n))).2.2 := by unfold mFo; rw [eR]; exact q1
  have q2 : F1 63 37 = nI (mFo h (nI n) k d (nI R) (mMn h (nI n))).2.1 := by unfold mFo; rw [eR]; exact q2
  have q3 : ∀ j, j < mMn h (nI n) → F1 79 j = nI (mSd h (nI n) k d (nI R) j) ∧ F1 80 j = nI (mAh h (nI n) k d (nI R) j) := fun j hj => by unfold mSd mAh; rw [eR]; exact q3 j hj
  have th_lo : ¬ q = 0 → ¬ q = 1 → ¬ q = 2 → ¬ 40 ≤ q → (q - 10).toNatClampNeg < mMn h (nI n) := fun a b c e => by rw [← eM]; exact told_lo hB htl a b c e
  have th_hi : 40 ≤ q → (q - 40).toNatClampNeg < mMn h (nI n) := fun a => by rw [← eM]; exact told_hi hB htl a
  refine ev_iload rfl rfl rfl ?_
  refine ev_bipush (v := 10) rfl rfl (by decide) ?_
  refine ev_icmp_lt rfl rfl (fun c_131 => ?_) (fun c_131 => ?_)
  · refine ev_iconst (v := 0) rfl rfl (by decide) ?_
    refine ev_istore rfl rfl rfl rfl ?_
    dsimp only [List.set]
    refine ev_iconst (v := 0) rfl rfl (by decide) ?_
    refine ev_istore rfl rfl rfl rfl ?_
    dsimp only [List.set]
    refine EvQ.mono (l_ms171 L b F1 n hn k d (nI R) q (mMn h (nI n)) m24 ((k1.2 73 n rfl).trans e73) (mSa h (nI n) k d (nI R)) (mAh h (nI n) k d (nI R)) rfl (fun _ => rfl) (fun i hi => (q3 i hi).2) c_131 (mMn h (nI n)) 0 (by omega)) (Nat.le_refl _) (Nat.le_refl _) (fun v_ G_ h_ q_ => ?_)
    obtain ⟨rfl, rfl, rfl⟩ := q_
    refine ⟨⟨_, rfl, ?_⟩, rfl, k1⟩
    show _ = b_set h (nI n) k d (nI R) q
    unfold b_set
    rw [if_pos c_131, q1, q2]
  · have n0 : ¬ q = 0 := fun z => by rw [z] at c_131; exact absurd c_131 (by decide)
    have n1 : ¬ q = 1 := fun z => by rw [z] at c_131; exact absurd c_131 (by decide)
    have n2 : ¬ q = 2 := fun z => by rw [z] at c_131; exact absurd c_131 (by decide)
    refine ev_iload rfl rfl rfl ?_
    refine ev_bipush (v := 40) rfl rfl (by decide) ?_
    refine ev_icmp_ge rfl rfl (fun c_138 => ?_) (fun c_138 => ?_)
    · have th1 := th_hi c_138
      refine ev_aload_n rfl rfl rfl ?_
      refine ev_getR rfl rfl fl_X10_73 rfl rfl rfl rfl ?_
      refine ev_iload rfl rfl rfl ?_
      refine ev_bipush (v := 40) rfl rfl (by decide) ?_
      refine ev_isub rfl rfl ?_
      refine ev_iald rfl rfl rfl ((bq.hi c_138).vp (by decide) (by decide)) rfl ?_
      exact ev_iret rfl rfl rfl (⟨⟨_, rfl, (show _ = b_set h (nI n) k d (nI R) q from by unfold b_set; rw [if_neg c_131, if_pos c_138]; exact (q3 _ th1).2)⟩, rfl, k1⟩)
    · have th2 := th_lo n0 n1 n2 c_138
      refine ev_aload_n rfl rfl rfl ?_
      refine ev_getR rfl rfl fl_X10_70 rfl rfl rfl rfl ?_
      refine ev_iload rfl rfl rfl ?_
      refine ev_bipush (v := 10) rfl rfl (by decide) ?_
      refine ev_isub rfl rfl ?_
      refine ev_iald rfl rfl rfl ((bq.lo n0 n1 n2 c_138).vp (by decide) (by decide)) rfl ?_
      refine ev_goto rfl rfl ?_
      exact ev_iret rfl rfl rfl (⟨⟨_, rfl, (show _ = b_set h (nI n) k d (nI R) q from by unfold b_set; rw [if_neg c_131, if_neg c_138]; exact (q3 _ th2).1)⟩, rfl, k1⟩)

set_option maxRecDepth 100000 in
set_option maxHeartbeats 4000000 in
theorem w_msetX (L : Nat) (b : Bool) (h : Hp) (hB : Bx h) (hE : RE h) (hT : RTU h) (hP : RPc h) (hsv : (h 63 0).toInt ≤ (h 63 3).toInt) (t k d R q : Int32) : EvI mi_X10_set [.ref 63, .int t, .int k, .int d, .int R, .int q] (G0 L b) h (fun r _ => r = r_ms h t k d R q) [(63, 35), (63, 36), (63, 37), (78, 999), (79, 999), (80, 999), (81, 999), (82, 999), (83, 999), (84, 999)] := by
  refine EvM.of2 (lo := [some (.ref 63), some (.int t), some (.int k), some (.int d), some (.int R), some (.int q), none, none]) pf_X10_set ok_X10_set rfl rfl ?_
  refine ev_aload_n rfl rfl rfl ?_
  refine ev_iload_n rfl rfl rfl ?_
  refine ev_V1D rfl rfl lk_X10_266 vt_X10_isTune rfl rfl rfl rfl rfl (c_misTune L b h hB _) ?_
  refine ev_if_eq rfl rfl (fun c_5 => ?_) (fun c_5 => ?_)
  · refine ev_iconst (v := (-1)) rfl rfl (by decide) ?_
    exact ev_iret rfl rfl rfl (⟨⟨_, rfl, r_ms_n (by simp only [r_mg, mg_told, if_pos c_5, if_true, if_neg (show ¬ (1 : Int32) = 0 by decide)]) (by decide)⟩, rfl, JW.refl hB⟩)
  · have pt : B t 0 5 := by
      have z_ := z_has_B (show B (h 63 23) 0 6 from hB 63 23) c_5
      have y_ := (show B (h 63 23) 0 6 from hB 63 23).2
      exact ⟨z_.1, by omega⟩
    obtain ⟨n, hn, rfl, en⟩ := B.nat6 pt
    refine ev_iload_n rfl rfl rfl ?_
    refine ev_i2l rfl rfl ?_
    refine ev_ldc2 rfl rfl kc_X10_282 ?_
    refine ev_ldc2 rfl rfl kc_X10_284 ?_
    refine ev_S3D rfl rfl lk_X10_124 st_X10_in rfl rfl (c_inw _ _ _ (-11) (11) (by decide) (by decide)) ?_
    refine ev_if_eq rfl rfl (fun c_19 => ?_) (fun c_19 => ?_)
    · refine ev_iconst (v := (-1)) rfl rfl (by decide) ?_
      exact ev_iret rfl rfl rfl (⟨⟨_, rfl, r_ms_n (by simp only [r_mg, mg_told, if_neg c_5, if_pos c_19, if_true, if_neg (show ¬ (1 : Int32) = 0 by decide)]) (by decide)⟩, rfl, JW.refl hB⟩)
    · refine ev_iload_n rfl rfl rfl ?_
      refine ev_i2l rfl rfl ?_
      refine ev_lconst (v := 0) rfl rfl rfl ?_
      refine ev_ldc2 rfl rfl kc_X10_181 ?_
      refine ev_S3D rfl rfl lk_X10_124 st_X10_in rfl rfl (c_inw _ _ _ (0) (400) (by decide) (by decide)) ?_
      refine ev_if_eq rfl rfl (fun c_31 => ?_) (fun c_31 => ?_)
      · refine ev_iconst (v := (-1)) rfl rfl (by decide) ?_
        exact ev_iret rfl rfl rfl (⟨⟨_, rfl, r_ms_n (by simp only [r_mg, mg_told, if_neg c_5, if_neg c_19, if_pos c_31, if_true, if_neg (show ¬ (1 : Int32) = 0 by decide)]) (by decide)⟩, rfl, JW.refl hB⟩)
      · refine ev_iload rfl rfl rfl ?_
        refine ev_i2l rfl rfl ?_
        refine ev_lconst (v := 0) rfl rfl rfl ?_
        refine ev_ldc2 rfl rfl kc_X10_321 ?_
        refine ev_S3D rfl rfl lk_X10_124 st_X10_in rfl rfl (c_inw _ _ _ (0) (8) (by decide) (by decide)) ?_
        refine ev_if_eq rfl rfl (fun c_44 => ?_) (fun c_44 => ?_)
        · refine ev_iconst (v := (-1)) rfl rfl (by decide) ?_
          exact ev_iret rfl rfl rfl (⟨⟨_, rfl, r_ms_n (by simp only [r_mg, mg_told, if_neg c_5, if_neg c_19, if_neg c_31, if_pos c_44, if_true, if_neg (show ¬ (1 : Int32) = 0 by decide)]) (by decide)⟩, rfl, JW.refl hB⟩)
        · obtain ⟨R, hR, rfl, eR⟩ := rst_nat c_44
          refine ev_iload rfl rfl rfl ?_
          refine ev_i2l rfl rfl ?_
          refine ev_lconst (v := 0) rfl rfl rfl ?_
          refine ev_ldc2 rfl rfl kc_X10_183 ?_
          refine ev_S3D rfl rfl lk_X10_124 st_X10_in rfl rfl (c_inw _ _ _ (0) (2) (by decide) (by decide)) ?_
          refine ev_if_ne rfl rfl (fun c_57 => ?_) (fun c_57 => ?_)
          · refine ev_aload_n rfl rfl rfl ?_
            refine ev_iload_n rfl rfl rfl ?_
            refine ev_iload_n rfl rfl rfl ?_
            refine ev_V2D rfl rfl lk_X10_286 vt_X10_isIn rfl rfl rfl rfl rfl (EvD.to (c_misIn L b h n hn _ (B.nI (u := 24) (hB 73 n)).2 (B.nI (u := 24) (hB 73 n)).1 k) (show _ = inM h (nI n) k from by unfold inM; rw [en]) rfl) ?_
            refine ev_if_ne rfl rfl (fun c_112 => ?_) (fun c_112 => ?_)
            · have g0 : r_mg h (nI n) k d (nI R) q = 0 := by simp only [r_mg, mg_told, if_neg c_5, if_neg c_19, if_neg c_31, if_neg c_44, if_neg c_57, if_neg c_112, if_true, if_neg (show ¬ (1 : Int32) = 0 by decide), en]
              rw [show r_ms h (nI n) k d (nI R) q = b_set h (nI n) k d (nI R) q from if_pos g0]
              exact x_ms118 L b h hB hE hT hP hsv n hn en k d q R hR eR g0
            · refine ev_bipush (v := (-2)) rfl rfl (by decide) ?_
              exact ev_iret rfl rfl rfl (⟨⟨_, rfl, r_ms_n (by simp only [r_mg, mg_told, if_neg c_5, if_neg c_19, if_neg c_31, if_neg c_44, if_neg c_57, if_pos c_112, if_true, if_neg (show ¬ (1 : Int32) = 0 by decide), en]) (by decide)⟩, rfl, JW.refl hB⟩)
          · refine ev_iload rfl rfl rfl ?_
            refine ev_i2l rfl rfl ?_
            refine ev_ldc2 rfl rfl kc_X10_271 ?_
            refine ev_bipush (v := 9) rfl rfl (by decide) ?_
            refine ev_aload_n rfl rfl rfl ?_
            refine ev_getR rfl rfl fl_X10_51 rfl rfl rfl rfl ?_
            refine ev_iload_n rfl rfl rfl ?_
            refine ev_iald rfl rfl rfl (vp_in_nI (by omega) (by decide)) (nI_clamp (by omega)) ?_
            refine ev_iadd rfl rfl ?_
            refine ev_i2l rfl rfl ?_
            refine ev_S3D rfl rfl lk_X10_124 st_X10_in rfl rfl (c_inw _ _ _ (10) (9 + h 73 n) (by decide) rfl) ?_
            refine ev_if_ne rfl rfl (fun c_79 => ?_) (fun c_79 => ?_)
            · refine ev_aload_n rfl rfl rfl ?_
              refine ev_iload_n rfl rfl rfl ?_
              refine ev_iload_n rfl rfl rfl ?_
              refine ev_V2D rfl rfl lk_X10_286 vt_X10_isIn rfl rfl rfl rfl rfl (EvD.to (c_misIn L b h n hn _ (B.nI (u := 24) (hB 73 n)).2 (B.nI (u := 24) (hB 73 n)).1 k) (show _ = inM h (nI n) k from by unfold inM; rw [en]) rfl) ?_
              refine ev_if_ne rfl rfl (fun c_112 => ?_) (fun c_112 => ?_)
              · have g0 : r_mg h (nI n) k d (nI R) q = 0 := by simp only [r_mg, mg_told, if_neg c_5, if_neg c_19, if_neg c_31, if_neg c_44, if_pos c_57, if_neg c_79, if_neg c_112, if_true, if_neg (show ¬ (1 : Int32) = 0 by decide), en]
                rw [show r_ms h (nI n) k d (nI R) q = b_set h (nI n) k d (nI R) q from if_pos g0]
                exact x_ms118 L b h hB hE hT hP hsv n hn en k d q R hR eR g0
              · refine ev_bipush (v := (-2)) rfl rfl (by decide) ?_
                exact ev_iret rfl rfl rfl (⟨⟨_, rfl, r_ms_n (by simp only [r_mg, mg_told, if_neg c_5, if_neg c_19, if_neg c_31, if_neg c_44, if_pos c_57, if_neg c_79, if_pos c_112, if_true, if_neg (show ¬ (1 : Int32) = 0 by decide), en]) (by decide)⟩, rfl, JW.refl hB⟩)
            · refine ev_iload rfl rfl rfl ?_
              refine ev_i2l rfl rfl ?_
              refine ev_ldc2 rfl rfl kc_X10_323 ?_
              refine ev_bipush (v := 39) rfl rfl (by decide) ?_
              refine ev_aload_n rfl rfl rfl ?_
              refine ev_getR rfl rfl fl_X10_51 rfl rfl rfl rfl ?_
              refine ev_iload_n rfl rfl rfl ?_
              refine ev_iald rfl rfl rfl (vp_in_nI (by omega) (by decide)) (nI_clamp (by omega)) ?_
              refine ev_iadd rfl rfl ?_
              refine ev_i2l rfl rfl ?_
              refine ev_S3D rfl rfl lk_X10_124 st_X10_in rfl rfl (c_inw _ _ _ (40) (39 + h 73 n) (by decide) rfl) ?_
              refine ev_if_ne rfl rfl (fun c_101 => ?_) (fun c_101 => ?_)
              · refine ev_aload_n rfl rfl rfl ?_
                refine ev_iload_n rfl rfl rfl ?_
                refine ev_iload_n rfl rfl rfl ?_
                refine ev_V2D rfl rfl lk_X10_286 vt_X10_isIn rfl rfl rfl rfl rfl (EvD.to (c_misIn L b h n hn _ (B.nI (u := 24) (hB 73 n)).2 (B.nI (u := 24) (hB 73 n)).1 k) (show _ = inM h (nI n) k from by unfold inM; rw [en]) rfl) ?_
                refine ev_if_ne rfl rfl (fun c_112 => ?_) (fun c_112 => ?_)
                · have g0 : r_mg h (nI n) k d (nI R) q = 0 := by simp only [r_mg, mg_told, if_neg c_5, if_neg c_19, if_neg c_31, if_neg c_44, if_pos c_57, if_pos c_79, if_neg c_101, if_neg c_112, if_true, if_neg (show ¬ (1 : Int32) = 0 by decide), en]
                  rw [show r_ms h (nI n) k d (nI R) q = b_set h (nI n) k d (nI R) q from if_pos g0]
                  exact x_ms118 L b h hB hE hT hP hsv n hn en k d q R hR eR g0
                · refine ev_bipush (v := (-2)) rfl rfl (by decide) ?_
                  exact ev_iret rfl rfl rfl (⟨⟨_, rfl, r_ms_n (by simp only [r_mg, mg_told, if_neg c_5, if_neg c_19, if_neg c_31, if_neg c_44, if_pos c_57, if_pos c_79, if_neg c_101, if_pos c_112, if_true, if_neg (show ¬ (1 : Int32) = 0 by decide), en]) (by decide)⟩, rfl, JW.refl hB⟩)
              · refine ev_iconst (v := (-1)) rfl rfl (by decide) ?_
                exact ev_iret rfl rfl rfl (⟨⟨_, rfl, r_ms_n (by simp only [r_mg, mg_told, if_neg c_5, if_neg c_19, if_neg c_31, if_neg c_44, if_pos c_57, if_pos c_79, if_pos c_101, if_true, if_neg (show ¬ (1 : Int32) = 0 by decide), en]) (by decide)⟩, rfl, JW.refl hB⟩)

/-- both answers are one -/
theorem q_fo_A {K : Nat} {N : Nat → Nat → Nat} {A A' : Nat → Nat → Nat} {M : Nat} (e : ∀ i, i < M → A i = A' i) : (∀ t i, i + t = M → q_TT K N A t i = q_TT K N A' t i) ∧ ∀ i, i < M → ∀ r p, q_fz K N A M i r p = q_fz K N A' M i r p ∧ q_fy K N A M i r p = q_fy K N A' M i r p := by
  have tt : ∀ t i, i + t = M → q_TT K N A t i = q_TT K N A' t i := by
    intro t
    induction t with
    | zero => intro i _; rfl
    | succ t ih =>
      intro i hi
      show q_nx K N (q_TT K N A t (i + 1)) (A i) = q_nx K N (q_TT K N A' t (i + 1)) (A' i)
      rw [ih (i + 1) (by omega), e i (by omega)]
  refine ⟨tt, fun i hi r p => ?_⟩
  unfold q_fz q_fy
  rw [tt (M - (i + 1)) (i + 1) (by omega), e i hi]
  exact ⟨rfl, rfl⟩
theorem q_fo_A2 {K : Nat} {N : Nat → Nat → Nat} {A A' : Nat → Nat → Nat} {M R p0 : Nat} (e : ∀ i, i < M → A i = A' i) : (∀ i, i ≤ M → q_fo K N A M R p0 i = q_fo K N A' M R p0 i) ∧ ∀ i, i < M → q_fsd K N A M R p0 i = q_fsd K N A' M R p0 i ∧ q_fah K N A M R p0 i = q_fah K N A' M R p0 i := by
  obtain ⟨-, z⟩ := q_fo_A (K := K) (N := N) e
  have f : ∀ i, i ≤ M → q_fo K N A M R p0 i = q_fo K N A' M R p0 i := by
    intro i
    induction i with
    | zero => intro _; rfl
    | succ i ih =>
      intro hi
      unfold q_fo
      rw [ih (by omega), (z i (by omega) _ _).1, (z i (by omega) _ _).2]
  refine ⟨f, fun i hi => ?_⟩
  unfold q_fsd q_fah
  rw [f i (by omega), (z i hi _ _).1, (z i hi _ _).2]
  exact ⟨rfl, rfl⟩
theorem set_eq {h : Hp} (hB : Bx h) (hE : RE h) (hT : RTU h) (hP : RPc h) (t k d R q : Int32) : r_cs h t k d R q = r_ms h t k d R q := by
  unfold r_cs r_ms
  rw [mg_eq hB hE hT]
  by_cases g : r_sg h t k d R q = 0
  · rw [if_pos g, if_pos g]
    obtain ⟨ht, hk, htl, hg⟩ := sg_0 g
    obtain ⟨eN, eM, eP, eC, eR_⟩ := prob_eq (k := k) (d := d) hB hE hT ht
    have r8 : R.toNatClampNeg ≤ 8 := by
      have g2 := g
      unfold r_sg at g2
      by_cases q5 : z_wi R 0 8 = 0
      · exfalso
        rw [if_neg ht, if_neg hk, if_neg htl] at g2
        by_cases q4 : z_wi d 0 400 = 0
        · rw [if_pos q4] at g2; exact absurd g2 (by decide)
        · rw [if_neg q4, if_pos q5] at g2; exact absurd g2 (by decide)
      · exact (B.nI (u := 8) (z_wi_B (by decide : B 0 0 0) (by decide : B 8 8 8) q5)).2
    have eA : ∀ i, i < mMn h t → pA h t k d i = mA h t k d i := fun i hi => funext (fun p => by
      unfold pA mA
      rw [eC i hi, eR_])
    obtain ⟨f1, f2⟩ := q_fo_A2 (K := 16) (N := mN h (h 63 5).toNatClampNeg) (R := R.toNatClampNeg) (p0 := (h 63 0).toNatClampNeg) eA
    have o1 : q_fo 9 (pN h) (pA h t k d) (pM h t) R.toNatClampNeg (pP h) (pM h t) = mFo h t k d R (mMn h t) := by
      rw [eN, eM, eP, q_fo_K r8, f1 _ (Nat.le_refl _)]
      rfl
    have o2 : ∀ i, i < mMn h t → q_fsd 9 (pN h) (pA h t k d) (pM h t) R.toNatClampNeg (pP h) i = mSd h t k d R i ∧ q_fah 9 (pN h) (pA h t k d) (pM h t) R.toNatClampNeg (pP h) i = mAh h t k d R i := fun i hi => by
      rw [eN, eM, eP, (q_fz_K r8 i).1, (q_fz_K r8 i).2, (f2 i hi).1, (f2 i hi).2]
      exact ⟨rfl, rfl⟩
    have bq := told_BQ hB htl
    have e10 : (10 : Int32).toInt = 10 := by decide
    have e40 : (40 : Int32).toInt = 40 := by decide
    unfold a_set b_set
    rw [o1]
    by_cases c0 : q = 0
    · subst c0
      rw [if_pos rfl, if_pos (by decide), if_pos rfl]
    rw [if_neg c0]
    by_cases c1 : q = 1
    · subst c1
      rw [if_pos rfl, if_pos (by decide), if_neg (by decide), if_pos rfl]
      have z := q_sah_R 16 (mN h (h 63 5).toNatClampNeg) (mA h t k d) (mMn h t) R.toNatClampNeg (h 63 0).toNatClampNeg (mMn h t)
      show nI (R.toNatClampNeg - (mFo h t k d R (mMn h t)).1) = nI (mSa h t k d R (mMn h t))
      unfold mFo mSa
      congr 1
      omega
    rw [if_neg c1]
    by_cases c2 : q = 2
    · subst c2
      rw [if_pos rfl, if_pos (by decide), if_neg (by decide), if_neg (by decide)]
    rw [if_neg c2]
    by_cases c3 : 40 ≤ q
    · have := w_le c3
      rw [if_pos c3, if_neg (fun z => by have := w_lt z; omega), if_pos c3]
      exact congrArg nI (o2 _ (by rw [← eM]; exact told_hi hB htl c3)).2
    · have b := bq.lo c0 c1 c2 c3
      have n10 : ¬ q < 10 := fun z => by
        have y := w_lt z
        rcases bq with p | p | p
        · have p1 : B q 1 2 := R_neL p (by decide : B 0 0 0) c0 (by decide)
          have p2 : B q 2 2 := R_neL p1 (by decide : B 1 1 1) c1 (by decide)
          exact c2 (D_eq p2 (by decide))
        · have := p.1; omega
        · have := p.1; omega
      rw [if_neg c3, if_neg n10, if_neg c3]
      exact congrArg nI (o2 _ (by rw [← eM]; exact told_lo hB htl c0 c1 c2 c3)).1
  · rw [if_neg g, if_neg g]
theorem s_mor_cg {h h1 : Hp} (e : ∀ j, h1 74 j = h 74 j) (n : Nat) : ∀ m, s_mor h1 n m = s_mor h n m
  | 0 => rfl
  | m + 1 => by unfold s_mor; rw [e, s_mor_cg e n m]
theorem ms_cg2 {h h1 : Hp} (e : ∀ i j, 63 ≤ i → i ≠ 95 → h1 i j = h i j) (t k d R q : Int32) : r_ms h1 t k d R q = r_ms h t k d R q := by
  have f : ∀ i, 63 ≤ i ∧ i ≠ 95 → h1 i = h i := fun i hi => funext (fun j => e i j hi.1 hi.2)
  have e : ∀ i j, 63 ≤ i ∧ i ≠ 95 → h1 i j = h i j := fun i j hi => e i j hi.1 hi.2
  have i1 : inM h1 t k = inM h t k := by
    unfold inM
    rw [s_mor_cg (fun j => e 74 j (by decide)), e 73 _ (by decide), e 63 5 (by decide)]
  have eN : mN h1 (h1 63 5).toNatClampNeg = mN h (h 63 5).toNatClampNeg := by
    unfold mN
    rw [f 63 (by decide)]
    exact congrArg (NN (h 63 3) (h 63 2)) (funext (fun y => s_md_cg (fun k => e 65 k (by decide)) (fun k => e 70 k (by decide)) _ _))
  have eA : mA h1 t k d = mA h t k d := by
    funext i p
    unfold mA mC mR
    rw [f 74 (by decide), f 63 (by decide)]
    have z : mP h1 d p = mP h d p := funext (fun j => by
      unfold mP
      rw [o_moff_cg (fun k => e 66 k (by decide)) (fun k => e 68 k (by decide)) (fun k => e 69 k (by decide))])
    rw [z]
  have eM : mMn h1 t = mMn h t := by unfold mMn; rw [f 73 (by decide)]
  have e0 : h1 63 0 = h 63 0 := e 63 0 (by decide)
  have g1 : ∀ i, mFo h1 t k d R i = mFo h t k d R i := fun i => by unfold mFo; rw [eN, eA, eM, e0]
  have g2 : ∀ i, mSd h1 t k d R i = mSd h t k d R i := fun i => by unfold mSd; rw [eN, eA, eM, e0]
  have g3 : ∀ i, mAh h1 t k d R i = mAh h t k d R i := fun i => by unfold mAh; rw [eN, eA, eM, e0]
  have g4 : ∀ i, mSa h1 t k d R i = mSa h t k d R i := fun i => by unfold mSa; rw [eN, eA, eM, e0]
  have gb : b_set h1 t k d R q = b_set h t k d R q := by
    unfold b_set
    rw [eM, g1, g2, g3, g4]
  have gm : r_mg h1 t k d R q = r_mg h t k d R q := by
    unfold r_mg mg_told
    rw [i1, e 63 23 (by decide), e 73 _ (by decide)]
  unfold r_ms
  rw [gb, gm]
