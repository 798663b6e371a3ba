def s_mor (h : Hp) (n : Nat) : Nat → Int32
  | 0 => 0
  | i + 1 => s_mor h n i ||| h 74 (24 * n + i)
def z_mv2 (x k : Int32) : Int32 := if 0 ≤ k then x <<< (k &&& 31) else x >>> (-k &&& 31)
theorem z_mv2_eq (x k : Int32) : z_mv2 x k = z_mv x k := by
  unfold z_mv2 z_mv
  by_cases q : k < 0
  · rw [if_pos q, if_neg (Int32.not_le.mpr q)]
  · rw [if_neg q, if_pos (Int32.not_lt.mp q)]
theorem ix24 (n i : Nat) : (24 : Int32) * nI n + nI i = nI (24 * n + i) := by
  rw [show (24 : Int32) = nI 24 from rfl, nI_mul, nI_add]

set_option maxRecDepth 100000 in
set_option maxHeartbeats 4000000 in
theorem c_mchordAt (L : Nat) (b : Bool) (h : Hp) (n : Nat) (hn : n < 6) (i : Nat) (hi : i < 24) : EvD mi_X10_chordAt [.ref 63, .int (nI n), .int (nI i)] (G0 L b) h (h 74 (24 * n + i)) (h) := by
  refine EvD.of (lo := [some (.ref 63), some (.int (nI n)), some (.int (nI i))]) pf_X10_chordAt ok_X10_chordAt rfl rfl ?_
  refine ev_aload_n rfl rfl rfl ?_
  refine ev_getR rfl rfl fl_X10_54 rfl rfl rfl rfl ?_
  refine ev_bipush (v := 24) rfl rfl (by decide) ?_
  refine ev_iload_n rfl rfl rfl ?_
  refine ev_imul rfl rfl ?_
  refine ev_iload_n rfl rfl rfl ?_
  refine ev_iadd rfl rfl ?_
  refine ev_iald (j := 24 * n + i) rfl rfl rfl (by rw [ix24]; exact vp_in_nI (by omega) (by decide)) (by rw [ix24]; exact nI_clamp (by omega)) ?_
  exact ev_iret rfl rfl rfl (⟨rfl, rfl, rfl⟩)

set_option maxRecDepth 100000 in
set_option maxHeartbeats 4000000 in
theorem c_mmoved (L : Nat) (b : Bool) (h : Hp) (x k : Int32) : EvD mi_X10_moved [.ref 63, .int x, .int k] (G0 L b) h (z_mv2 x k) (h) := by
  refine EvD.of (lo := [some (.ref 63), some (.int x), some (.int k)]) pf_X10_moved ok_X10_moved rfl rfl ?_
  refine ev_iload_n rfl rfl rfl ?_
  refine ev_if_ge rfl rfl (fun c_1 => ?_) (fun c_1 => ?_)
  · refine ev_iload_n rfl rfl rfl ?_
    refine ev_iload_n rfl rfl rfl ?_
    refine ev_ishl rfl rfl ?_
    exact ev_iret rfl rfl rfl (⟨congrArg (fun z => some (Value.int z)) (by simp only [z_mv2, if_pos c_1]), rfl, rfl⟩)
  · refine ev_iload_n rfl rfl rfl ?_
    refine ev_iload_n rfl rfl rfl ?_
    refine ev_ineg rfl rfl ?_
    refine ev_ishr rfl rfl ?_
    refine ev_goto rfl rfl ?_
    exact ev_iret rfl rfl rfl (⟨congrArg (fun z => some (Value.int z)) (by simp only [z_mv2, if_neg c_1]), rfl, rfl⟩)

set_option maxRecDepth 100000 in
set_option maxHeartbeats 4000000 in
theorem l_mallOf (L : Nat) (b : Bool) (h : Hp) (n : Nat) (hn : n < 6) (m : Nat) (hm0 : m ≤ 24) (hm : h 73 n = nI m)  : ∀ t i : Nat, i + t = m → EvQ mi_X10_allOf 4 [some (.ref 63), some (.int (nI n)), some (.int (s_mor h n i)), some (.int (nI i))] [] (G0 L b) h 0 0 (fun v G' h' => v = some (.int (s_mor h n m)) ∧ G' = G0 L b ∧ h' = h) := by
  intro t
  induction t with
  | zero =>
    intro i hi
    have hi2 : i = m := by omega
    subst hi2
    refine ev_iload_n rfl rfl rfl ?_
    refine ev_aload_n rfl rfl rfl ?_
    refine ev_getR rfl rfl fl_X10_51 rfl rfl rfl rfl ?_
    refine ev_iload_n rfl rfl rfl ?_
    refine ev_iald rfl rfl rfl (vp_in_nI (by omega) (by decide)) (nI_clamp (by omega)) ?_
    refine ev_icmp_ge rfl rfl (fun c_11 => ?_) (fun z_ => absurd (by rw [hm]; exact Int32.le_refl _) z_)
    refine ev_iload_n rfl rfl rfl ?_
    exact ev_iret rfl rfl rfl (⟨rfl, rfl, rfl⟩)
  | succ t ih =>
    intro i hi
    refine ev_iload_n rfl rfl rfl ?_
    refine ev_aload_n rfl rfl rfl ?_
    refine ev_getR rfl rfl fl_X10_51 rfl rfl rfl rfl ?_
    refine ev_iload_n rfl rfl rfl ?_
    refine ev_iald rfl rfl rfl (vp_in_nI (by omega) (by decide)) (nI_clamp (by omega)) ?_
    refine ev_icmp_ge rfl rfl (fun z_ => absurd z_ (by rw [hm]; exact nI_ge (by omega) (by omega))) (fun c_11 => ?_)
    refine ev_iload_n rfl rfl rfl ?_
    refine ev_aload_n rfl rfl rfl ?_
    refine ev_iload_n rfl rfl rfl ?_
    refine ev_iload_n rfl rfl rfl ?_
    refine ev_V2D rfl rfl lk_X10_263 vt_X10_chordAt rfl rfl rfl rfl rfl (c_mchordAt L b h n hn i (by omega)) ?_
    refine ev_ior rfl rfl ?_
    refine ev_istore_n rfl rfl rfl rfl ?_
    dsimp only [List.set]
    refine ev_iinc (y := 1) rfl rfl rfl (by decide) rfl rfl ?_
    dsimp only [List.set]
    refine ev_goto rfl rfl ?_
    have z_ := ih (i + 1) (by omega)
    simp only [s_mor] at z_
    rw [nI_1 i]
    exact z_

set_option maxRecDepth 100000 in
set_option maxHeartbeats 4000000 in
theorem c_mallOf (L : Nat) (b : Bool) (h : Hp) (n : Nat) (hn : n < 6) (m : Nat) (hm0 : m ≤ 24) (hm : h 73 n = nI m)  : EvD mi_X10_allOf [.ref 63, .int (nI n)] (G0 L b) h (s_mor h n m) (h) := by
  refine EvD.of (lo := [some (.ref 63), some (.int (nI n)), none, none]) pf_X10_allOf ok_X10_allOf rfl rfl ?_
  refine ev_iconst (v := 0) rfl rfl (by decide) ?_
  refine ev_istore_n rfl rfl rfl rfl ?_
  dsimp only [List.set]
  refine ev_iconst (v := 0) rfl rfl (by decide) ?_
  refine ev_istore_n rfl rfl rfl rfl ?_
  dsimp only [List.set]
  exact l_mallOf L b h n hn m hm0 hm m 0 (by omega)

set_option maxRecDepth 100000 in
set_option maxHeartbeats 4000000 in
theorem c_misW (L : Nat) (b : Bool) (h : Hp) (w : Int32) : EvD mi_X10_isWhistle [.ref 63, .int w] (G0 L b) h (z_wi w 0 (h 63 5 - 1)) (h) := by
  refine EvD.of (lo := [some (.ref 63), some (.int w)]) pf_X10_isWhistle ok_X10_isWhistle rfl rfl ?_
  refine ev_iload_n rfl rfl rfl ?_
  refine ev_i2l rfl rfl ?_
  refine ev_lconst (v := 0) rfl rfl rfl ?_
  refine ev_aload_n rfl rfl rfl ?_
  refine ev_getI rfl rfl fl_X10_121 rfl rfl rfl ?_
  refine ev_iconst (v := 1) rfl rfl (by decide) ?_
  refine ev_isub rfl rfl ?_
  refine ev_i2l rfl rfl ?_
  refine ev_S3D rfl rfl lk_X10_124 st_X10_in rfl rfl (c_inw _ _ _ 0 _ rfl rfl) ?_
  exact ev_iret rfl rfl (z_wi_b _ _ _) (⟨rfl, rfl, rfl⟩)

def s_in (a k w : Int32) : Nat → Int32
  | 0 => 1
  | i + 1 => if s_in a k w i = 0 then 0 else if a >>> (nI i &&& 31) &&& 1 = 0 then 1 else if z_wi (nI i + k) 0 w = 0 then 0 else 1
theorem s_in_01 (a k w : Int32) : ∀ i, B (s_in a k w i) 0 1
  | 0 => by unfold s_in; decide
  | i + 1 => by
    unfold s_in
    split
    · decide
    · split
      · decide
      · split <;> decide
theorem s_mor_B {h : Hp} {n : Nat} (hc : ∀ i, B (h 74 i) 0 4095) : ∀ m, B (s_mor h n m) 0 4095
  | 0 => by unfold s_mor; decide
  | m + 1 => by
    unfold s_mor
    exact B.or 12 (s_mor_B hc m) (hc _) (by decide) (by decide) (by decide) (by decide) (by decide)
/-- the model's tune t goes in key k -/
def KM (h : Hp) (t k : Int32) : Prop := ∀ i : Nat, (i : Int) < (h 73 t.toNatClampNeg).toInt → B (z_mv (h 74 (24 * t.toNatClampNeg + i)) k) 0 4095
/-- each beat before i that sounds has its cell -/
def IXP (h : Hp) (t k f i : Int32) : Prop := ∀ j : Nat, (j : Int) < i.toInt → ¬ h 74 (24 * t.toNatClampNeg + j) = 0 → 0 ≤ f.toInt + j ∧ f.toInt + j < (h 93 k.toNatClampNeg).toInt

set_option maxRecDepth 100000 in
set_option maxHeartbeats 4000000 in
theorem l_misIn (L : Nat) (b : Bool) (h : Hp) (q a k : Int32) (N : Nat) (hN : N = 12)  : ∀ t i : Nat, i + t = N → EvQ mi_X10_isIn 12 [some (.ref 63), some (.int q), some (.int k), some (.int a), some (.int (s_in a k (h 63 5 - 1) i)), some (.int (nI i))] [] (G0 L b) h 0 0 (fun v G' h' => v = some (.int (s_in a k (h 63 5 - 1) N)) ∧ G' = G0 L b ∧ h' = h) := by
  intro t
  induction t with
  | zero =>
    intro i hi
    have hi2 : i = N := by omega
    subst hi2
    refine ev_iload rfl rfl rfl ?_
    refine ev_bipush (v := 12) rfl rfl (by decide) ?_
    refine ev_icmp_ge rfl rfl (fun c_16 => ?_) (fun z_ => absurd (by rw [hN]; decide) z_)
    refine ev_iload rfl rfl rfl ?_
    exact ev_iret rfl rfl ((ev_z01 (s_in_01 _ _ _ _).z01).1) (⟨rfl, rfl, rfl⟩)
  | succ t ih =>
    intro i hi
    refine ev_iload rfl rfl rfl ?_
    refine ev_bipush (v := 12) rfl rfl (by decide) ?_
    refine ev_icmp_ge rfl rfl (fun z_ => absurd z_ (by rw [show (12 : Int32) = nI 12 from rfl]; exact nI_ge (by omega) (by omega))) (fun c_16 => ?_)
    refine ev_iload rfl rfl rfl ?_
    refine ev_if_eq rfl rfl (fun c_21 => ?_) (fun c_21 => ?_)
    · refine ev_iconst (v := 0) rfl rfl (by decide) ?_
      refine ev_istore rfl rfl rfl rfl ?_
      dsimp only [List.set]
      refine ev_iinc (y := 1) rfl rfl rfl (by decide) rfl rfl ?_
      dsimp only [List.set]
      refine ev_goto rfl rfl ?_
      have z_ := ih (i + 1) (by omega)
      simp only [s_in, if_neg c_16, if_pos c_21] at z_
      rw [nI_1 i]
      exact z_
    · refine ev_iload_n rfl rfl rfl ?_
      refine ev_iload rfl rfl rfl ?_
      refine ev_ishr rfl rfl ?_
      refine ev_iconst (v := 1) rfl rfl (by decide) ?_
      refine ev_iand rfl rfl ?_
      refine ev_if_eq rfl rfl (fun c_30 => ?_) (fun c_30 => ?_)
      · refine ev_iconst (v := 1) rfl rfl (by decide) ?_
        refine ev_goto rfl rfl ?_
        refine ev_istore rfl rfl rfl rfl ?_
        dsimp only [List.set]
        refine ev_iinc (y := 1) rfl rfl rfl (by decide) rfl rfl ?_
        dsimp only [List.set]
        refine ev_goto rfl rfl ?_
        have z_ := ih (i + 1) (by omega)
        simp only [s_in, if_neg c_16, if_neg c_21, if_pos c_30] at z_
        rw [nI_1 i]
        exact z_
      · refine ev_aload_n rfl rfl rfl ?_
        refine ev_iload rfl rfl rfl ?_
        refine ev_iload_n rfl rfl rfl ?_
        refine ev_iadd rfl rfl ?_
        refine ev_V1D rfl rfl lk_X10_169 vt_X10_isWhistle rfl rfl rfl rfl rfl (c_misW _ _ _ _) ?_
        refine ev_if_eq rfl rfl (fun c_41 => ?_) (fun c_41 => ?_)
        · refine ev_iconst (v := 0) rfl rfl (by decide) ?_
          refine ev_istore rfl rfl rfl rfl ?_
          dsimp only [List.set]
          refine ev_iinc (y := 1) rfl rfl rfl (by decide) rfl rfl ?_
          dsimp only [List.set]
          refine ev_goto rfl rfl ?_
          have z_ := ih (i + 1) (by omega)
          simp only [s_in, if_neg c_16, if_neg c_21, if_neg c_30, if_pos c_41] at z_
          rw [nI_1 i]
          exact z_
        · refine ev_iconst (v := 1) rfl rfl (by decide) ?_
          refine ev_goto rfl rfl ?_
          refine ev_istore rfl rfl rfl rfl ?_
          dsimp only [List.set]
          refine ev_iinc (y := 1) rfl rfl rfl (by decide) rfl rfl ?_
          dsimp only [List.set]
          refine ev_goto rfl rfl ?_
          have z_ := ih (i + 1) (by omega)
          simp only [s_in, if_neg c_16, if_neg c_21, if_neg c_30, if_neg c_41] at z_
          rw [nI_1 i]
          exact z_

set_option maxRecDepth 100000 in
set_option maxHeartbeats 4000000 in
theorem c_misIn (L : Nat) (b : Bool) (h : Hp) (n : Nat) (hn : n < 6) (m : Nat) (hm0 : m ≤ 24) (hm : h 73 n = nI m) (k : Int32) : EvD mi_X10_isIn [.ref 63, .int (nI n), .int k] (G0 L b) h (s_in (s_mor h n m) k (h 63 5 - 1) 12) (h) := by
  refine EvD.of (lo := [some (.ref 63), some (.int (nI n)), some (.int k), none, none, none]) pf_X10_isIn ok_X10_isIn rfl rfl ?_
  refine ev_aload_n rfl rfl rfl ?_
  refine ev_iload_n rfl rfl rfl ?_
  refine ev_V1D rfl rfl lk_X10_273 vt_X10_allOf rfl rfl rfl rfl rfl (c_mallOf _ _ _ n hn m hm0 hm) ?_
  refine ev_istore_n rfl rfl rfl rfl ?_
  dsimp only [List.set]
  refine ev_iconst (v := 1) rfl rfl (by decide) ?_
  refine ev_istore rfl rfl rfl rfl ?_
  dsimp only [List.set]
  refine ev_iconst (v := 0) rfl rfl (by decide) ?_
  refine ev_istore rfl rfl rfl rfl ?_
  dsimp only [List.set]
  exact l_misIn L b h (nI n) (s_mor h n m) k 12 rfl 12 0 (by omega)

theorem B.nat6 {t : Int32} (pt : B t 0 5) : ∃ n : Nat, n < 6 ∧ t = nI n ∧ t.toNatClampNeg = n := by
  have e := pt.nat
  have := pt.2
  exact ⟨t.toNatClampNeg, by omega, e.1, rfl⟩
/-- the chord of beat i, moved -/
theorem w_chordAtK (L : Nat) (b : Bool) (h : Hp) (hB : Bx h) (t i : Int32) (pt : B t 0 5) (pi : B i 0 23) : EvP mi_X10_chordAt [.ref 63, .int t, .int i] (G0 L b) h (fun r => B r 0 4095 ∧ r = h 74 (24 * t.toNatClampNeg + i.toNatClampNeg)) := by
  obtain ⟨n, hn, e1, e2⟩ := pt.nat6
  obtain ⟨j, f1, f2⟩ : ∃ j : Nat, i = nI j ∧ (j : Int) = i.toInt := ⟨_, pi.nat⟩
  have hj : j < 24 := by have := pi.2; omega
  rw [e1, f1]
  refine (c_mchordAt L b h n hn j hj).p ⟨hB 74 _, ?_⟩
  rw [nI_clamp (show n < 2 ^ 31 by omega), nI_clamp (show j < 2 ^ 31 by omega)]
theorem z_mv_0 (k : Int32) : z_mv 0 k = 0 := by
  unfold z_mv
  split <;> simp
theorem KM.at {h h1 : Hp} {t k i x : Int32} (hK : KM h t k) (hi : i.toInt < (h 73 t.toNatClampNeg).toInt) (pi : B i 0 23) (e : x = h1 74 (24 * t.toNatClampNeg + i.toNatClampNeg)) (e1 : h1 74 (24 * t.toNatClampNeg + i.toNatClampNeg) = h 74 (24 * t.toNatClampNeg + i.toNatClampNeg)) : B (z_mv x k) 0 4095 := by
  rw [e, e1]
  exact hK _ (by have := pi.nat.2; omega)
theorem IXP.step {h : Hp} {t k f i i' : Int32} (hI : IXP h t k f i) (pi : B i 0 23) (e : i'.toInt = i.toInt + 1) (hx : ¬ h 74 (24 * t.toNatClampNeg + i.toNatClampNeg) = 0 → 0 ≤ f.toInt + i.toInt ∧ f.toInt + i.toInt < (h 93 k.toNatClampNeg).toInt) : IXP h t k f i' := fun j hj => by
  have en := pi.nat.2
  by_cases q : j = i.toNatClampNeg
  · subst q
    rw [en]
    exact hx
  · exact hI j (by omega)
theorem IXP.all {h : Hp} {t k f i : Int32} (hI : IXP h t k f i) (hi : (h 73 t.toNatClampNeg).toInt ≤ i.toInt) : IXP h t k f (h 73 t.toNatClampNeg) := fun j hj => hI j (by omega)
theorem KM.keep {W : List (Nat × Nat)} {h h1 : Hp} {t k : Int32} (hK : KM h t k) (hJ : JW W h h1) (h73 : ∀ j, wm W 73 j = false) (h74 : ∀ j, wm W 74 j = false) : KM h1 t k := fun i hi => by
  rw [hJ.2 _ _ (h73 _)] at hi
  rw [hJ.2 _ _ (h74 _)]
  exact hK i hi
theorem IXP.keep {W : List (Nat × Nat)} {h h1 : Hp} {t k f : Int32} (hI : IXP h t k f (h 73 t.toNatClampNeg)) (hJ : JW W h h1) (h73 : ∀ j, wm W 73 j = false) (h74 : ∀ j, wm W 74 j = false) (h93 : ∀ j, wm W 93 j = false) : IXP h1 t k f (h1 73 t.toNatClampNeg) := fun j hj => by
  rw [hJ.2 _ _ (h73 _)] at hj
  rw [hJ.2 _ _ (h74 _), hJ.2 _ _ (h93 _)]
  exact hI j hj
