def ag (S : Nat → Int32) : Nat → Nat × Int32 → Nat × Int32
  | 0, x => x
  | t + 1, x => ag S t (if S t < x.2 then (t, S t) else x)
def sA (h : Hp) (m p : Nat) : Int32 := s_stray h (z_all (h 4 7)) (nI p) m
def agA (h : Hp) (m : Nat) (q : Int32) (x : Nat × Int32) : Int32 := if q = 0 then nI x.1 else if q = 1 then x.2 else s_exact h (nI x.1) m

set_option maxRecDepth 100000 in
set_option maxHeartbeats 4000000 in
theorem l_agree (L : Nat) (b : Bool) (h : Hp) (m : Nat) (hm0 : m ≤ 12) (hm : h 4 7 = nI m) (q : Int32) : ∀ (t : Nat) (x : Nat × Int32), t ≤ 200 → EvQ mi_X9_agree 59 [some (.ref 1), some (.int q), some (.int (nI x.1)), some (.int x.2), some (.int (nI t - 1)), none] [] (G0 L b) h 0 0 (fun v G' h' => v = some (.int (agA h m q (ag (sA h m) t x))) ∧ G' = G0 L b ∧ h' = h) := by
  intro t
  induction t with
  | zero =>
    intro x ht
    show EvQ _ _ _ _ _ _ _ _ (fun v G' h' => v = some (.int (agA h m q x)) ∧ G' = G0 L b ∧ h' = h)
    refine ev_iload rfl rfl rfl ?_
    refine ev_if_lt rfl rfl (fun c_61 => ?_) (fun z_ => absurd (show nI 0 - 1 < 0 by decide) z_)
    refine ev_iload_n rfl rfl rfl ?_
    refine ev_if_ne rfl rfl (fun c_101 => ?_) (fun c_101 => ?_)
    · refine ev_iload_n rfl rfl rfl ?_
      refine ev_iconst (v := 1) rfl rfl (by decide) ?_
      refine ev_icmp_ne rfl rfl (fun c_108 => ?_) (fun c_108 => ?_)
      · refine ev_aload_n rfl rfl rfl ?_
        refine ev_getR rfl rfl fl_X9_22 rfl rfl rfl rfl ?_
        refine ev_iload_n rfl rfl rfl ?_
        refine ev_V1D rfl rfl lk_X9_161 vt_X8_exactAt rfl rfl rfl rfl rfl (c_exactAt L b h m hm0 hm _) ?_
        exact ev_iret rfl rfl rfl (⟨congrArg (fun z => some (Value.int z)) (show _ = agA h m q x from by simp only [agA, if_pos c_61, if_neg c_101, if_neg c_108]), rfl, rfl⟩)
      · refine ev_iload_n rfl rfl rfl ?_
        refine ev_goto rfl rfl ?_
        exact ev_iret rfl rfl rfl (⟨congrArg (fun z => some (Value.int z)) (show _ = agA h m q x from by simp only [agA, if_pos c_61, if_neg c_101, if_pos c_108]), rfl, rfl⟩)
    · refine ev_iload_n rfl rfl rfl ?_
      exact ev_iret rfl rfl rfl (⟨congrArg (fun z => some (Value.int z)) (show _ = agA h m q x from by simp only [agA, if_pos c_61, if_pos c_101]), rfl, rfl⟩)
  | succ t ih =>
    intro x ht
    rw [nI_m1]
    refine ev_iload rfl rfl rfl ?_
    refine ev_if_lt rfl rfl (fun z_ => absurd z_ (nI_nn (by omega))) (fun c_61 => ?_)
    refine ev_aload_n rfl rfl rfl ?_
    refine ev_getR rfl rfl fl_X9_22 rfl rfl rfl rfl ?_
    refine ev_aload_n rfl rfl rfl ?_
    refine ev_getR rfl rfl fl_X9_22 rfl rfl rfl rfl ?_
    refine ev_V0D rfl rfl lk_X9_165 vt_X8_all rfl rfl rfl rfl rfl (c_all L b h) ?_
    refine ev_iload rfl rfl rfl ?_
    refine ev_V2D rfl rfl lk_X9_115 vt_X8_strayOf rfl rfl rfl rfl rfl (EvD.to (c_strayOf L b h m hm0 hm _ _) (show _ = sA h m t from rfl) rfl) ?_
    refine ev_istore rfl rfl rfl rfl ?_
    dsimp only [List.set]
    refine ev_iload rfl rfl rfl ?_
    refine ev_iload_n rfl rfl rfl ?_
    refine ev_icmp_ge rfl rfl (fun c_85 => ?_) (fun c_85 => ?_)
    · refine ev_iinc (y := (-1)) rfl rfl rfl (by decide) rfl rfl ?_
      dsimp only [List.set]
      refine ev_goto rfl rfl ?_
      have z_ := ih x (by omega)
      rw [show ag (sA h m) (t + 1) x = ag (sA h m) t x from by show ag _ t (if _ then _ else _) = _; rw [if_neg (Int32.not_lt.mpr c_85)], nI_p1]
      exact EvQ.drop 5 z_
    · refine ev_iload rfl rfl rfl ?_
      refine ev_istore_n rfl rfl rfl rfl ?_
      dsimp only [List.set]
      refine ev_iload rfl rfl rfl ?_
      refine ev_istore_n rfl rfl rfl rfl ?_
      dsimp only [List.set]
      refine ev_iinc (y := (-1)) rfl rfl rfl (by decide) rfl rfl ?_
      dsimp only [List.set]
      refine ev_goto rfl rfl ?_
      have z_ := ih (t, sA h m t) (by omega)
      rw [show ag (sA h m) (t + 1) x = ag (sA h m) t (t, sA h m t) from by show ag _ t (if _ then _ else _) = _; rw [if_pos (Int32.not_le.mp c_85)], nI_p1]
      exact EvQ.drop 5 z_

def r_agr (h : Hp) (q : Int32) : Int32 := if z_wi q 0 2 = 0 then -1 else if h 4 7 = 0 then -4 else agA h (nW h) q (ag (sA h (nW h)) (h 2 3).toNatClampNeg ((h 2 3).toNatClampNeg, sA h (nW h) (h 2 3).toNatClampNeg))

set_option maxRecDepth 100000 in
set_option maxHeartbeats 4000000 in
theorem x_agreeE (L : Nat) (b : Bool) (h : Hp) (hB : Bx h) (q : Int32) : EvD mi_X9_agree [.ref 1, .int q] (G0 L b) h (r_agr h q) (h) := by
  refine EvD.of (lo := [some (.ref 1), some (.int q), none, none, none, none]) pf_X9_agree ok_X9_agree rfl rfl ?_
  refine ev_iload_n rfl rfl rfl ?_
  refine ev_iconst (v := 0) rfl rfl (by decide) ?_
  refine ev_iconst (v := 2) rfl rfl (by decide) ?_
  refine ev_S3D rfl rfl lk_X9_75 st_X9_isWithin rfl rfl (c_isWithin _ _ _ _ _) ?_
  refine ev_if_ne rfl rfl (fun c_6 => ?_) (fun c_6 => ?_)
  · refine ev_aload_n rfl rfl rfl ?_
    refine ev_getR rfl rfl fl_X9_22 rfl rfl rfl rfl ?_
    refine ev_getI rfl rfl fl_X9_158 rfl rfl rfl ?_
    refine ev_if_ne rfl rfl (fun c_18 => ?_) (fun c_18 => ?_)
    · refine ev_aload_n rfl rfl rfl ?_
      refine ev_getR rfl rfl fl_X9_10 rfl rfl rfl rfl ?_
      refine ev_getI rfl rfl fl_X9_96 rfl rfl rfl ?_
      refine ev_istore_n rfl rfl rfl rfl ?_
      dsimp only [List.set]
      refine ev_aload_n rfl rfl rfl ?_
      refine ev_getR rfl rfl fl_X9_22 rfl rfl rfl rfl ?_
      refine ev_aload_n rfl rfl rfl ?_
      refine ev_getR rfl rfl fl_X9_22 rfl rfl rfl rfl ?_
      refine ev_V0D rfl rfl lk_X9_165 vt_X8_all rfl rfl rfl rfl rfl (c_all L b h) ?_
      refine ev_iload_n rfl rfl rfl ?_
      refine ev_V2D rfl rfl lk_X9_115 vt_X8_strayOf rfl rfl rfl rfl rfl (c_strayOf L b h (nW h) (B.nI (u := 12) (hB 4 7)).2 (B.nI (u := 12) (hB 4 7)).1 _ _) ?_
      refine ev_istore_n rfl rfl rfl rfl ?_
      dsimp only [List.set]
      refine ev_aload_n rfl rfl rfl ?_
      refine ev_getR rfl rfl fl_X9_10 rfl rfl rfl rfl ?_
      refine ev_getI rfl rfl fl_X9_96 rfl rfl rfl ?_
      refine ev_iconst (v := 1) rfl rfl (by decide) ?_
      refine ev_isub rfl rfl ?_
      refine ev_istore rfl rfl rfl rfl ?_
      dsimp only [List.set]
      have ev := (B.nI (u := 200) (hB 2 3)).1
      have lv := (B.nI (u := 200) (hB 2 3)).2
      rw [show r_agr h q = agA h (nW h) q (ag (sA h (nW h)) (h 2 3).toNatClampNeg ((h 2 3).toNatClampNeg, sA h (nW h) (h 2 3).toNatClampNeg)) from by simp only [r_agr, if_neg c_6, if_neg c_18]]
      have z_ := l_agree L b h (nW h) (B.nI (u := 12) (hB 4 7)).2 (B.nI (u := 12) (hB 4 7)).1 q (h 2 3).toNatClampNeg ((h 2 3).toNatClampNeg, sA h (nW h) (h 2 3).toNatClampNeg) (by omega)
      dsimp only at z_
      rw [← ev] at z_
      rw [show s_stray h (z_all (h 4 7)) (h 2 3) (nW h) = sA h (nW h) (h 2 3).toNatClampNeg from by unfold sA; rw [← ev]]
      exact z_
    · refine ev_bipush (v := (-4)) rfl rfl (by decide) ?_
      exact ev_iret rfl rfl rfl (⟨congrArg (fun z => some (Value.int z)) (by simp only [r_agr, if_neg c_6, if_pos c_18]), rfl, rfl⟩)
  · refine ev_iconst (v := (-1)) rfl rfl (by decide) ?_
    exact ev_iret rfl rfl rfl (⟨congrArg (fun z => some (Value.int z)) (by simp only [r_agr, if_pos c_6]), rfl, rfl⟩)

def mg (S : Nat → Int32) : Nat → Nat × Int32
  | 0 => (0, 1000000)
  | i + 1 => if (mg S i).2 < S i then mg S i else (i, S i)
def sAm (h : Hp) (m p : Nat) : Int32 := s_ms h (1 <<< (h 63 5 &&& 31) - 1) (nI p) m
def s_rt (h : Hp) (p : Int32) : Nat → Int32
  | 0 => 0
  | k + 1 => if o_moff h k p = 0 then s_rt h p k + 1 else s_rt h p k + 0
def mgA (h : Hp) (m : Nat) (q : Int32) (x : Nat × Int32) : Int32 := if q = 0 then nI x.1 else if q = 1 then x.2 else s_rt h (nI x.1) m
theorem mg_s {S : Nat → Int32} {i : Nat} (c : (mg S i).2 < S i) : mg S (i + 1) = mg S i := if_pos c
theorem mg_n {S : Nat → Int32} {i : Nat} (c : ¬ (mg S i).2 < S i) : mg S (i + 1) = (i, S i) := if_neg c

set_option maxRecDepth 100000 in
set_option maxHeartbeats 4000000 in
theorem l_mag2 (L : Nat) (b : Bool) (h : Hp) (m : Nat) (hm0 : m ≤ 12) (hm : h 63 5 = nI m) (q : Int32) (x : Nat × Int32)  : ∀ t i : Nat, i + t = m → EvQ mi_X10_agree 81 [some (.ref 63), some (.int q), some (.int (nI x.1)), some (.int x.2), some (.int (s_rt h (nI x.1) i)), some (.int (nI i))] [] (G0 L b) h 0 0 (fun v G' h' => v = some (.int (mgA h m q x)) ∧ G' = G0 L b ∧ h' = h) := by
  intro t
  induction t with
  | zero =>
    intro i hi
    have hi2 : i = m := by omega
    subst hi2
    refine ev_iload rfl rfl rfl ?_
    refine ev_aload_n rfl rfl rfl ?_
    refine ev_getI rfl rfl fl_X10_121 rfl rfl rfl ?_
    refine ev_icmp_ge rfl rfl (fun c_87 => ?_) (fun z_ => absurd (by rw [hm]; exact Int32.le_refl _) z_)
    refine ev_iload_n rfl rfl rfl ?_
    refine ev_if_ne rfl rfl (fun c_117 => ?_) (fun c_117 => ?_)
    · refine ev_iload_n rfl rfl rfl ?_
      refine ev_iconst (v := 1) rfl rfl (by decide) ?_
      refine ev_icmp_ne rfl rfl (fun c_126 => ?_) (fun c_126 => ?_)
      · refine ev_iload rfl rfl rfl ?_
        exact ev_iret rfl rfl rfl (⟨congrArg (fun z => some (Value.int z)) (by simp only [mgA, if_pos c_87, if_neg c_117, if_neg c_126]), rfl, rfl⟩)
      · refine ev_iload_n rfl rfl rfl ?_
        refine ev_goto rfl rfl ?_
        exact ev_iret rfl rfl rfl (⟨congrArg (fun z => some (Value.int z)) (by simp only [mgA, if_pos c_87, if_neg c_117, if_pos c_126]), rfl, rfl⟩)
    · refine ev_iload_n rfl rfl rfl ?_
      refine ev_goto rfl rfl ?_
      exact ev_iret rfl rfl rfl (⟨congrArg (fun z => some (Value.int z)) (by simp only [mgA, if_pos c_87, if_pos c_117]), rfl, rfl⟩)
  | succ t ih =>
    intro i hi
    refine ev_iload rfl rfl rfl ?_
    refine ev_aload_n rfl rfl rfl ?_
    refine ev_getI rfl rfl fl_X10_121 rfl rfl rfl ?_
    refine ev_icmp_ge rfl rfl (fun z_ => absurd z_ (by rw [hm]; exact nI_ge (by omega) (by omega))) (fun c_87 => ?_)
    refine ev_iload rfl rfl rfl ?_
    refine ev_aload_n rfl rfl rfl ?_
    refine ev_iload rfl rfl rfl ?_
    refine ev_iload_n rfl rfl rfl ?_
    refine ev_V2D rfl rfl lk_X10_153 vt_X10_off rfl rfl rfl rfl rfl (c_moff L b h i (by omega) _) ?_
    refine ev_if_ne rfl rfl (fun c_99 => ?_) (fun c_99 => ?_)
    · refine ev_iconst (v := 0) rfl rfl (by decide) ?_
      refine ev_iadd rfl rfl ?_
      refine ev_istore rfl rfl rfl rfl ?_
      dsimp only [List.set]
      refine ev_iinc (y := 1) rfl rfl rfl (by decide) rfl rfl ?_
      dsimp only [List.set]
      refine ev_goto rfl rfl ?_
      have z_ := ih (i + 1) (by omega)
      simp only [s_rt, if_neg c_87, if_neg c_99] at z_
      rw [nI_1 i]
      exact z_
    · refine ev_iconst (v := 1) rfl rfl (by decide) ?_
      refine ev_goto rfl rfl ?_
      refine ev_iadd rfl rfl ?_
      refine ev_istore rfl rfl rfl rfl ?_
      dsimp only [List.set]
      refine ev_iinc (y := 1) rfl rfl rfl (by decide) rfl rfl ?_
      dsimp only [List.set]
      refine ev_goto rfl rfl ?_
      have z_ := ih (i + 1) (by omega)
      simp only [s_rt, if_neg c_87, if_pos c_99] at z_
      rw [nI_1 i]
      exact z_

set_option maxRecDepth 100000 in
set_option maxHeartbeats 4000000 in
theorem l_mag1 (L : Nat) (b : Bool) (h : Hp) (m : Nat) (hm0 : m ≤ 12) (hm : h 63 5 = nI m) (V : Nat) (hV0 : V ≤ 200) (hV : h 63 3 = nI V) (q : Int32)  : ∀ t i : Nat, i + t = V + 1 → EvQ mi_X10_agree 32 [some (.ref 63), some (.int q), some (.int (nI (mg (sAm h m) i).1)), some (.int (mg (sAm h m) i).2), some (.int (nI i)), none] [] (G0 L b) h 0 0 (fun v G' h' => v = some (.int (mgA h m q (mg (sAm h m) (V + 1)))) ∧ G' = G0 L b ∧ h' = h) := by
  intro t
  induction t with
  | zero =>
    intro i hi
    have hi2 : i = V + 1 := by omega
    subst hi2
    refine ev_iload rfl rfl rfl ?_
    refine ev_aload_n rfl rfl rfl ?_
    refine ev_getI rfl rfl fl_X10_19 rfl rfl rfl ?_
    refine ev_icmp_gt rfl rfl (fun c_38 => ?_) (fun z_ => absurd (by rw [hV]; exact (nI_ltI (by omega) (by omega)).mpr (by omega)) z_)
    refine ev_iconst (v := 0) rfl rfl (by decide) ?_
    refine ev_istore rfl rfl rfl rfl ?_
    dsimp only [List.set]
    refine ev_iconst (v := 0) rfl rfl (by decide) ?_
    refine ev_istore rfl rfl rfl rfl ?_
    dsimp only [List.set]
    exact l_mag2 L b h m hm0 hm q (mg (sAm h m) (V + 1)) m 0 (by omega)
  | succ t ih =>
    intro i hi
    refine ev_iload rfl rfl rfl ?_
    refine ev_aload_n rfl rfl rfl ?_
    refine ev_getI rfl rfl fl_X10_19 rfl rfl rfl ?_
    refine ev_icmp_gt rfl rfl (fun z_ => absurd z_ (fun z_ => by rw [hV] at z_; exact absurd ((nI_ltI (by omega) (by omega)).mp z_) (by omega))) (fun c_38 => ?_)
    refine ev_aload_n rfl rfl rfl ?_
    refine ev_iconst (v := 1) rfl rfl (by decide) ?_
    refine ev_aload_n rfl rfl rfl ?_
    refine ev_getI rfl rfl fl_X10_121 rfl rfl rfl ?_
    refine ev_ishl rfl rfl ?_
    refine ev_iconst (v := 1) rfl rfl (by decide) ?_
    refine ev_isub rfl rfl ?_
    refine ev_iload rfl rfl rfl ?_
    refine ev_V2D rfl rfl lk_X10_159 vt_X10_strayOf rfl rfl rfl rfl rfl (EvD.to (c_mstray L b h m hm0 hm _ _) (show _ = sAm h m i from rfl) rfl) ?_
    refine ev_istore rfl rfl rfl rfl ?_
    dsimp only [List.set]
    refine ev_iload rfl rfl rfl ?_
    refine ev_iload_n rfl rfl rfl ?_
    refine ev_icmp_gt rfl rfl (fun c_60 => ?_) (fun c_60 => ?_)
    · refine ev_iinc (y := 1) rfl rfl rfl (by decide) rfl rfl ?_
      dsimp only [List.set]
      refine ev_goto rfl rfl ?_
      have z_ := ih (i + 1) (by omega)
      rw [mg_s c_60] at z_
      rw [nI_1 i]
      exact EvQ.drop 5 z_
    · refine ev_iload rfl rfl rfl ?_
      refine ev_istore_n rfl rfl rfl rfl ?_
      dsimp only [List.set]
      refine ev_iload rfl rfl rfl ?_
      refine ev_istore_n rfl rfl rfl rfl ?_
      dsimp only [List.set]
      refine ev_iinc (y := 1) rfl rfl rfl (by decide) rfl rfl ?_
      dsimp only [List.set]
      refine ev_goto rfl rfl ?_
      have z_ := ih (i + 1) (by omega)
      rw [mg_n c_60] at z_
      rw [nI_1 i]
      exact EvQ.drop 5 z_

def m_agr (h : Hp) (q : Int32) : Int32 := if z_wi q 0 2 = 0 then -1 else if h 63 5 = 0 then -4 else mgA h (h 63 5).toNatClampNeg q (mg (sAm h (h 63 5).toNatClampNeg) ((h 63 3).toNatClampNeg + 1))

set_option maxRecDepth 100000 in
set_option maxHeartbeats 4000000 in
theorem m_xagree (L : Nat) (b : Bool) (h : Hp) (hB : Bx h) (q : Int32) : EvD mi_X10_agree [.ref 63, .int q] (G0 L b) h (m_agr h q) (h) := by
  refine EvD.of (lo := [some (.ref 63), some (.int q), none, none, none, none]) pf_X10_agree ok_X10_agree rfl rfl ?_
  refine ev_iload_n rfl rfl rfl ?_
  refine ev_i2l rfl rfl ?_
  refine ev_lconst (v := 0) rfl rfl rfl ?_
  refine ev_ldc2 rfl rfl kc_X10_183 ?_
  refine ev_S3D rfl rfl lk_X10_124 st_X10_in rfl rfl (c_inw _ _ _ (0) (2) (by decide) (by decide)) ?_
  refine ev_if_ne rfl rfl (fun c_9 => ?_) (fun c_9 => ?_)
  · refine ev_aload_n rfl rfl rfl ?_
    refine ev_getI rfl rfl fl_X10_121 rfl rfl rfl ?_
    refine ev_if_ne rfl rfl (fun c_18 => ?_) (fun c_18 => ?_)
    · refine ev_iconst (v := 0) rfl rfl (by decide) ?_
      refine ev_istore_n rfl rfl rfl rfl ?_
      dsimp only [List.set]
      refine ev_ldc rfl rfl kc_X10_185 ?_
      refine ev_istore_n rfl rfl rfl rfl ?_
      dsimp only [List.set]
      refine ev_iconst (v := 0) rfl rfl (by decide) ?_
      refine ev_istore rfl rfl rfl rfl ?_
      dsimp only [List.set]
      rw [show m_agr h q = mgA h (h 63 5).toNatClampNeg q (mg (sAm h (h 63 5).toNatClampNeg) ((h 63 3).toNatClampNeg + 1)) from by simp only [m_agr, if_neg c_9, if_neg c_18]]
      exact l_mag1 L b h _ (B.nI (u := 12) (hB 63 5)).2 (B.nI (u := 12) (hB 63 5)).1 _ (B.nI (u := 200) (hB 63 3)).2 (B.nI (u := 200) (hB 63 3)).1 q ((h 63 3).toNatClampNeg + 1) 0 (by omega)
    · refine ev_bipush (v := (-4)) rfl rfl (by decide) ?_
      exact ev_iret rfl rfl rfl (⟨congrArg (fun z => some (Value.int z)) (by simp only [m_agr, if_neg c_9, if_pos c_18]), rfl, rfl⟩)
  · refine ev_iconst (v := (-1)) rfl rfl (by decide) ?_
    exact ev_iret rfl rfl rfl (⟨congrArg (fun z => some (Value.int z)) (by simp only [m_agr, if_pos c_9]), rfl, rfl⟩)

/-- the last of the least -/
def AGP (S : Nat → Int32) (V : Nat) (x : Nat × Int32) : Prop := x.1 ≤ V ∧ x.2 = S x.1 ∧ ∀ i, i ≤ V → (S x.1).toInt ≤ (S i).toInt ∧ (x.1 < i → (S x.1).toInt < (S i).toInt)
theorem ag_P {S : Nat → Int32} {V : Nat} : ∀ (t : Nat) (x : Nat × Int32), t ≤ x.1 → x.1 ≤ V → x.2 = S x.1 → (∀ i, t ≤ i → i ≤ V → (S x.1).toInt ≤ (S i).toInt ∧ (x.1 < i → (S x.1).toInt < (S i).toInt)) → AGP S V (ag S t x)
  | 0, x, _, h2, h3, h4 => ⟨h2, h3, fun i hi => h4 i (Nat.zero_le _) hi⟩
  | t + 1, x, h1, h2, h3, h4 => by
    show AGP S V (ag S t (if S t < x.2 then (t, S t) else x))
    by_cases c : S t < x.2
    · rw [if_pos c]
      have c1 := w_lt c
      rw [h3] at c1
      refine ag_P t (t, S t) (Nat.le_refl _) (by show t ≤ V; omega) rfl (fun i hi hV => ?_)
      show (S t).toInt ≤ (S i).toInt ∧ (t < i → (S t).toInt < (S i).toInt)
      by_cases e : i = t
      · subst e; exact ⟨Int.le_refl _, fun z => absurd z (Nat.lt_irrefl _)⟩
      · have y := (h4 i (by omega) hV).1
        exact ⟨by omega, fun _ => by omega⟩
    · rw [if_neg c]
      have c1 := w_nlt c
      rw [h3] at c1
      refine ag_P t x (by omega) h2 h3 (fun i hi hV => ?_)
      by_cases e : i = t
      · subst e; exact ⟨c1, fun z => by omega⟩
      · exact h4 i (by omega) hV
theorem mg_P {S : Nat → Int32} (h0 : (S 0).toInt ≤ 1000000) : ∀ i, (mg S (i + 1)).1 ≤ i ∧ (mg S (i + 1)).2 = S (mg S (i + 1)).1 ∧ ∀ j, j ≤ i → (S (mg S (i + 1)).1).toInt ≤ (S j).toInt ∧ ((mg S (i + 1)).1 < j → (S (mg S (i + 1)).1).toInt < (S j).toInt)
  | 0 => by
    have e6 : (1000000 : Int32).toInt = 1000000 := by decide
    have c : ¬ (mg S 0).2 < S 0 := fun z => by
      have y := w_lt z
      rw [show (mg S 0).2 = 1000000 from rfl, e6] at y
      omega
    rw [mg_n c]
    refine ⟨Nat.le_refl _, rfl, fun j hj => ?_⟩
    have e : j = 0 := by omega
    subst e
    exact ⟨Int.le_refl _, fun z => absurd z (Nat.lt_irrefl _)⟩
  | i + 1 => by
    obtain ⟨a1, a2, a3⟩ := mg_P h0 i
    by_cases c : (mg S (i + 1)).2 < S (i + 1)
    · rw [mg_s c]
      have c1 := w_lt c
      rw [a2] at c1
      refine ⟨by omega, a2, fun j hj => ?_⟩
      by_cases e : j = i + 1
      · subst e; exact ⟨by omega, fun _ => c1⟩
      · exact a3 j (by omega)
    · rw [mg_n c]
      have c1 := w_nlt c
      rw [a2] at c1
      refine ⟨Nat.le_refl _, rfl, fun j hj => ?_⟩
      show (S (i + 1)).toInt ≤ (S j).toInt ∧ (i + 1 < j → _)
      by_cases e : j = i + 1
      · subst e; exact ⟨Int.le_refl _, fun z => absurd z (Nat.lt_irrefl _)⟩
      · have y := (a3 j (by omega)).1
        exact ⟨by omega, fun z => by omega⟩
theorem AGP.one {S : Nat → Int32} {V : Nat} {x y : Nat × Int32} (h1 : AGP S V x) (h2 : AGP S V y) : x = y := by
  obtain ⟨a1, a2, a3⟩ := h1
  obtain ⟨b1, b2, b3⟩ := h2
  have e : x.1 = y.1 := by
    have p := a3 y.1 b1
    have q := b3 x.1 a1
    rcases Nat.lt_trichotomy x.1 y.1 with z | z | z
    · have := p.2 z; omega
    · exact z
    · have := q.2 z; omega
  refine Prod.ext e ?_
  rw [a2, b2, e]
theorem rt_eq {h : Hp} (p : Int32) : ∀ m, (∀ w, w < m → RW1 h w) → s_exact h p m = s_rt h p m
  | 0, _ => rfl
  | m + 1, hW => by
    have ih := rt_eq p m (fun w hw => hW w (by omega))
    have eo := off_eq (hW m (by omega)) p
    show s_exact h p m + (if o_off h m p = 0 then 1 else 0) = if o_moff h m p = 0 then s_rt h p m + 1 else s_rt h p m + 0
    rw [ih, eo]
    by_cases c : o_moff h m p = 0
    · rw [if_pos c, if_pos c]
    · rw [if_neg c, if_neg c]
theorem z_abs_le {x : Int32} {u : Int} (h1 : -u ≤ x.toInt) (h2 : x.toInt ≤ u) (hu : u < 2147483648) : (z_abs x).toInt ≤ u := by
  have e0 : (0 : Int32).toInt = 0 := by decide
  unfold z_abs
  by_cases q : 0 ≤ x
  · rw [if_pos q]; exact h2
  · have q1 := w_lt (Int32.not_le.mp q)
    rw [if_neg q, Int32.toInt_neg, Int.bmod_eq_of_le (by omega) (by omega)]
    omega
theorem off0_le {h : Hp} {w : Nat} (h9 : B (h 9 w) (-100) 100) (h10 : B (h 10 w) (-200) 200) (h7 : B (h 7 w) 0 20) : (z_abs (o_off h w (nI 0))).toInt ≤ 1000 := by
  have a1 := h9.1
  have a2 := h9.2
  have b1 := h10.1
  have b2 := h10.2
  have c1 := h7.1
  have c2 := h7.2
  have e : (nI 0 - 100 : Int32).toInt = -100 := by decide
  have em : (h 7 w * (nI 0 - 100)).toInt = (h 7 w).toInt * -100 := by
    rw [Int32.toInt_mul, e]
    exact Int.bmod_eq_of_le (by omega) (by omega)
  have eb : -300 ≤ (o_bent h w (nI 0)).toInt ∧ (o_bent h w (nI 0)).toInt ≤ 300 := by
    unfold o_bent
    generalize h 7 w * (nI 0 - 100) = x at *
    obtain ⟨d1, d2⟩ := dv10 x
    have hx : -2000 ≤ x.toInt ∧ x.toInt ≤ 0 := by omega
    have ht : x.toInt.tdiv 10 = -((-x.toInt) / 10) := by
      rw [← Int.tdiv_eq_ediv_of_nonneg (by omega : 0 ≤ -x.toInt), Int.neg_tdiv, Int.neg_neg]
    have e1 : (1 : Int32).toInt = 1 := by decide
    have es := w_sub (x := x / 10) (y := 1) (by omega) (by omega)
    unfold z_fd
    repeat' split
    all_goals omega
  have s1 := w_add (x := h 9 w) (y := h 10 w) (by omega) (by omega)
  have s2 := w_add (x := h 9 w + h 10 w) (y := o_bent h w (nI 0)) (by omega) (by omega)
  refine z_abs_le ?_ ?_ (by decide)
  · show -1000 ≤ (h 9 w + h 10 w + o_bent h w (nI 0)).toInt
    omega
  · show (h 9 w + h 10 w + o_bent h w (nI 0)).toInt ≤ 1000
    omega
theorem stray_le {h : Hp} (c p : Int32) : ∀ m, (∀ w, w < m → (z_abs (o_off h w p)).toInt ≤ 1000) → (s_stray h c p m).toInt ≤ 1000
  | 0, _ => by show (0 : Int32).toInt ≤ 1000; decide
  | m + 1, hw => by
    have ih := stray_le c p m (fun w h1 => hw w (by omega))
    have y := hw m (by omega)
    unfold s_stray
    split
    · exact ih
    · unfold z_max
      split
      · exact y
      · exact ih
theorem agr_eq {h : Hp} (hB : Bx h) (hE : RE h) (hL : RLk h) (hS : ∀ w, w < nW h → B (h 7 w) 0 20) (q : Int32) : r_agr h q = m_agr h q := by
  obtain ⟨⟨b0, b1, b2, b3, b4⟩, hW, -⟩ := hE
  have l12 : nW h ≤ 12 := (B.nI (u := 12) (hB 4 7)).2
  have lv := (B.nI (u := 200) (hB 63 3)).2
  have en5 : (h 63 5).toNatClampNeg = nW h := by unfold nW; rw [hW.1]
  have es : sA h (nW h) = sAm h (nW h) := funext (fun p => by
    unfold sA sAm
    rw [hW.1]
    exact stray_eq _ _ _ hW.2.1)
  have h0 : (sA h (nW h) 0).toInt ≤ 1000 := stray_le _ _ _ (fun w hw => off0_le (hL.1.1 w (by omega)).1 (hL.1.1 w (by omega)).2 (hS w hw))
  unfold r_agr m_agr
  rw [en5, b3, ← es, ← hW.1]
  by_cases q0 : z_wi q 0 2 = 0
  · rw [if_pos q0, if_pos q0]
  · rw [if_neg q0, if_neg q0]
    by_cases q1 : h 4 7 = 0
    · rw [if_pos q1, if_pos q1]
    · rw [if_neg q1, if_neg q1]
      have p1 : AGP (sA h (nW h)) (h 63 3).toNatClampNeg (ag (sA h (nW h)) (h 63 3).toNatClampNeg ((h 63 3).toNatClampNeg, sA h (nW h) (h 63 3).toNatClampNeg)) := ag_P _ _ (Nat.le_refl _) (Nat.le_refl _) rfl (fun i h1 h2 => by
        have e : i = (h 63 3).toNatClampNeg := by omega
        rw [e]
        exact ⟨Int.le_refl _, fun z => absurd z (Nat.lt_irrefl _)⟩)
      have p2 : AGP (sA h (nW h)) (h 63 3).toNatClampNeg (mg (sA h (nW h)) ((h 63 3).toNatClampNeg + 1)) := mg_P (by omega) _
      rw [AGP.one p1 p2]
      unfold agA mgA
      rw [rt_eq _ _ hW.2.1]

