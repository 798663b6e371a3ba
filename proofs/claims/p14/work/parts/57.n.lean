/-- holds(), the class: t pressures are left, the least that held is l -/
def s_hd (h : Hp) (w : Nat) (d : Int32) : Nat → Int32 → Int32
  | 0, l => l
  | t + 1, l => if z_near (o_off h w (nI t)) d = 0 then l else s_hd h w d t (nI t)
def s_mhd (h : Hp) (w : Nat) (d : Int32) : Nat → Nat
  | 0 => 0
  | t + 1 => if d < z_sz (o_moff h w (nI t)) then t + 1 else s_mhd h w d t
def r_mh (v : Int32) (x : Nat) : Int32 := if nI x ≤ v then nI x else -4
theorem nI_m1 (t : Nat) : nI (t + 1) - 1 = nI t := by
  rw [← nI_1, Int32.add_sub_cancel]
theorem nI_p1 (t : Nat) : nI t + (-1) = nI t - 1 := (Int32.sub_eq_add_neg _ _).symm
theorem nI_q1 (t : Nat) : nI (t + 1) + (-1) = nI t := by rw [nI_p1, nI_m1]
theorem nI_nn {t : Nat} (ht : t < 2 ^ 31) : ¬ nI t < 0 := fun z => by
  have y := w_lt z
  have e0 : (0 : Int32).toInt = 0 := by decide
  rw [nI_toInt ht] at y
  omega
theorem nI_np {t : Nat} (ht : t + 1 < 2 ^ 31) : ¬ nI (t + 1) ≤ 0 := fun z => by
  have y := w_le z
  have e0 : (0 : Int32).toInt = 0 := by decide
  rw [nI_toInt ht] at y
  omega

set_option maxRecDepth 100000 in
set_option maxHeartbeats 4000000 in
theorem l_hold1 (L : Nat) (b : Bool) (h : Hp) (w : Nat) (hw : w < 12) (d : Int32) : ∀ (t : Nat) (l : Int32), t ≤ 201 → EvQ mi_X9_holds 36 [some (.ref 1), some (.int (nI w)), some (.int d), some (.int l), some (.int (nI t - 1))] [] (G0 L b) h 0 0 (fun v G' h' => v = some (.int (s_hd h w d t l)) ∧ G' = G0 L b ∧ h' = h) := by
  intro t
  induction t with
  | zero =>
    intro l ht
    refine ev_iload rfl rfl rfl ?_
    refine ev_if_lt rfl rfl (fun c_38 => ?_) (fun z_ => absurd (show nI 0 - 1 < 0 by decide) z_)
    refine ev_iload_n rfl rfl rfl ?_
    exact ev_iret rfl rfl rfl (⟨rfl, rfl, rfl⟩)
  | succ t ih =>
    intro l ht
    rw [nI_m1]
    refine ev_iload rfl rfl rfl ?_
    refine ev_if_lt rfl rfl (fun z_ => absurd z_ (nI_nn (by omega))) (fun c_38 => ?_)
    refine ev_aload_n rfl rfl rfl ?_
    refine ev_getR rfl rfl fl_X9_22 rfl rfl rfl rfl ?_
    refine ev_iload_n rfl rfl rfl ?_
    refine ev_iload rfl rfl rfl ?_
    refine ev_iload_n rfl rfl rfl ?_
    refine ev_V3D rfl rfl lk_X9_152 vt_X8_isNear rfl rfl rfl rfl rfl (c_isNear L b h w hw _ d) ?_
    refine ev_if_eq rfl rfl (fun c_52 => ?_) (fun c_52 => ?_)
    · refine ev_iload_n rfl rfl rfl ?_
      exact ev_iret rfl rfl rfl (⟨congrArg (fun z => some (Value.int z)) (show _ = s_hd h w d (t + 1) l from (if_pos c_52).symm), rfl, rfl⟩)
    · refine ev_iload rfl rfl rfl ?_
      refine ev_istore_n rfl rfl rfl rfl ?_
      dsimp only [List.set]
      refine ev_iinc (y := (-1)) rfl rfl rfl (by decide) rfl rfl ?_
      dsimp only [List.set]
      refine ev_goto rfl rfl ?_
      have z_ := ih (nI t) (by omega)
      rw [show s_hd h w d (t + 1) l = s_hd h w d t (nI t) from if_neg c_52, nI_p1]
      exact z_

def r_hold (h : Hp) (w d : Int32) : Int32 := if z_has w (h 4 7) = 0 then -1 else if z_wi d 0 400 = 0 then -1 else s_hd h w.toNatClampNeg d ((h 2 3).toNatClampNeg + 1) (-4)

set_option maxRecDepth 100000 in
set_option maxHeartbeats 4000000 in
theorem x_holdsE (L : Nat) (b : Bool) (h : Hp) (hB : Bx h) (w d : Int32) : EvD mi_X9_holds [.ref 1, .int w, .int d] (G0 L b) h (r_hold h w d) (h) := by
  refine EvD.of (lo := [some (.ref 1), some (.int w), some (.int d), none, none]) pf_X9_holds ok_X9_holds rfl rfl ?_
  refine ev_aload_n rfl rfl rfl ?_
  refine ev_getR rfl rfl fl_X9_22 rfl rfl rfl rfl ?_
  refine ev_iload_n rfl rfl rfl ?_
  refine ev_V1D rfl rfl lk_X9_126 vt_X8_has rfl rfl rfl rfl rfl (c_X8_has _ _ _ _) ?_
  refine ev_if_eq rfl rfl (fun c_8 => ?_) (fun c_8 => ?_)
  · refine ev_iconst (v := (-1)) rfl rfl (by decide) ?_
    exact ev_iret rfl rfl rfl (⟨congrArg (fun z => some (Value.int z)) (by simp only [r_hold, if_pos c_8]), rfl, rfl⟩)
  · refine ev_iload_n rfl rfl rfl ?_
    refine ev_iconst (v := 0) rfl rfl (by decide) ?_
    refine ev_sipush (v := 400) rfl rfl (by decide) ?_
    refine ev_S3D rfl rfl lk_X9_75 st_X9_isWithin rfl rfl (c_isWithin _ _ _ _ _) ?_
    refine ev_if_ne rfl rfl (fun c_19 => ?_) (fun c_19 => ?_)
    · obtain ⟨j, hj, rfl⟩ := z_hask (B.nI (u := 12) (hB 4 7)).1 (B.nI (u := 12) (hB 4 7)).2 (by decide) c_8
      have hj12 := (B.nI (u := 12) (hB 4 7)).2
      have ej := nI_clamp (show j < 2 ^ 31 by omega)
      refine ev_bipush (v := (-4)) rfl rfl (by decide) ?_
      refine ev_istore_n rfl rfl rfl rfl ?_
      dsimp only [List.set]
      refine ev_aload_n rfl rfl rfl ?_
      refine ev_getR rfl rfl fl_X9_10 rfl rfl rfl rfl ?_
      refine ev_getI rfl rfl fl_X9_96 rfl rfl rfl ?_
      refine ev_istore rfl rfl rfl rfl ?_
      dsimp only [List.set]
      have ev := (B.nI (u := 200) (hB 2 3)).1
      have lv := (B.nI (u := 200) (hB 2 3)).2
      rw [show r_hold h (nI j) d = s_hd h j d ((h 2 3).toNatClampNeg + 1) (-4) from by simp only [r_hold, if_neg c_8, if_neg c_19, ej]]
      have z_ := l_hold1 L b h j (by omega) d ((h 2 3).toNatClampNeg + 1) (-4) (by omega)
      rw [nI_m1, ← ev] at z_
      exact z_
    · refine ev_iconst (v := (-1)) rfl rfl (by decide) ?_
      exact ev_iret rfl rfl rfl (⟨congrArg (fun z => some (Value.int z)) (by simp only [r_hold, if_neg c_8, if_pos c_19]), rfl, rfl⟩)

set_option maxRecDepth 100000 in
set_option maxHeartbeats 4000000 in
theorem l_mhold1 (L : Nat) (b : Bool) (h : Hp) (w : Nat) (hw : w < 12) (d : Int32) : ∀ (t : Nat), t ≤ 201 → EvQ mi_X10_holds 29 [some (.ref 63), some (.int (nI w)), some (.int d), some (.int (nI t))] [] (G0 L b) h 0 0 (fun v G' h' => v = some (.int (r_mh (h 63 3) (s_mhd h w d t))) ∧ G' = G0 L b ∧ h' = h) := by
  intro t
  induction t with
  | zero =>
    intro ht
    refine ev_iload_n rfl rfl rfl ?_
    refine ev_if_le rfl rfl (fun c_30 => ?_) (fun z_ => absurd (show nI 0 ≤ 0 by decide) z_)
    refine ev_iload_n rfl rfl rfl ?_
    refine ev_aload_n rfl rfl rfl ?_
    refine ev_getI rfl rfl fl_X10_19 rfl rfl rfl ?_
    refine ev_icmp_le rfl rfl (fun c_59 => ?_) (fun c_59 => ?_)
    · refine ev_iload_n rfl rfl rfl ?_
      exact ev_iret rfl rfl rfl (⟨congrArg (fun z => some (Value.int z)) (show _ = r_mh (h 63 3) 0 from by simp only [r_mh, if_pos c_30, if_pos c_59]), rfl, rfl⟩)
    · refine ev_bipush (v := (-4)) rfl rfl (by decide) ?_
      refine ev_goto rfl rfl ?_
      exact ev_iret rfl rfl rfl (⟨congrArg (fun z => some (Value.int z)) (show _ = r_mh (h 63 3) 0 from by simp only [r_mh, if_pos c_30, if_neg c_59]), rfl, rfl⟩)
  | succ t ih =>
    intro ht
    refine ev_iload_n rfl rfl rfl ?_
    refine ev_if_le rfl rfl (fun z_ => absurd z_ (nI_np (by omega))) (fun c_30 => ?_)
    refine ev_aload_n rfl rfl rfl ?_
    refine ev_iload_n rfl rfl rfl ?_
    refine ev_iload_n rfl rfl rfl ?_
    refine ev_iconst (v := 1) rfl rfl (by decide) ?_
    refine ev_isub rfl rfl ?_
    rw [nI_m1]
    refine ev_V2D rfl rfl lk_X10_153 vt_X10_off rfl rfl rfl rfl rfl (c_moff L b h w hw _) ?_
    refine ev_S1D rfl rfl lk_X10_156 st_X10_size rfl rfl (c_size _ _ _) ?_
    refine ev_iload_n rfl rfl rfl ?_
    refine ev_icmp_gt rfl rfl (fun c_45 => ?_) (fun c_45 => ?_)
    · refine ev_iload_n rfl rfl rfl ?_
      refine ev_aload_n rfl rfl rfl ?_
      refine ev_getI rfl rfl fl_X10_19 rfl rfl rfl ?_
      refine ev_icmp_le rfl rfl (fun c_59 => ?_) (fun c_59 => ?_)
      · refine ev_iload_n rfl rfl rfl ?_
        exact ev_iret rfl rfl rfl (⟨congrArg (fun z => some (Value.int z)) (show _ = r_mh (h 63 3) (s_mhd h w d (t + 1)) from by rw [show s_mhd h w d (t + 1) = t + 1 from if_pos c_45]; simp only [r_mh, if_neg c_30, if_pos c_45, if_pos c_59]), rfl, rfl⟩)
      · refine ev_bipush (v := (-4)) rfl rfl (by decide) ?_
        refine ev_goto rfl rfl ?_
        exact ev_iret rfl rfl rfl (⟨congrArg (fun z => some (Value.int z)) (show _ = r_mh (h 63 3) (s_mhd h w d (t + 1)) from by rw [show s_mhd h w d (t + 1) = t + 1 from if_pos c_45]; simp only [r_mh, if_neg c_30, if_pos c_45, if_neg c_59]), rfl, rfl⟩)
    · refine ev_iinc (y := (-1)) rfl rfl rfl (by decide) rfl rfl ?_
      dsimp only [List.set]
      refine ev_goto rfl rfl ?_
      have z_ := ih (by omega)
      rw [show s_mhd h w d (t + 1) = s_mhd h w d t from if_neg c_45, nI_q1]
      exact z_

def m_hold (h : Hp) (w d : Int32) : Int32 := if z_has w (h 63 5) = 0 then -1 else if z_wi d 0 400 = 0 then -1 else r_mh (h 63 3) (s_mhd h w.toNatClampNeg d ((h 63 3).toNatClampNeg + 1))

set_option maxRecDepth 100000 in
set_option maxHeartbeats 4000000 in
theorem m_xholds (L : Nat) (b : Bool) (h : Hp) (hB : Bx h) (w d : Int32) : EvD mi_X10_holds [.ref 63, .int w, .int d] (G0 L b) h (m_hold h w d) (h) := by
  refine EvD.of (lo := [some (.ref 63), some (.int w), some (.int d), none]) pf_X10_holds ok_X10_holds rfl rfl ?_
  refine ev_aload_n rfl rfl rfl ?_
  refine ev_iload_n rfl rfl rfl ?_
  refine ev_V1D rfl rfl lk_X10_169 vt_X10_isWhistle rfl rfl rfl rfl rfl (c_misWh L b h hB _) ?_
  refine ev_if_eq rfl rfl (fun c_5 => ?_) (fun c_5 => ?_)
  · refine ev_iconst (v := (-1)) rfl rfl (by decide) ?_
    exact ev_iret rfl rfl rfl (⟨congrArg (fun z => some (Value.int z)) (by simp only [m_hold, if_pos c_5]), rfl, rfl⟩)
  · refine ev_iload_n rfl rfl rfl ?_
    refine ev_i2l rfl rfl ?_
    refine ev_lconst (v := 0) rfl rfl rfl ?_
    refine ev_ldc2 rfl rfl kc_X10_181 ?_
    refine ev_S3D rfl rfl lk_X10_124 st_X10_in rfl rfl (c_inw _ _ _ (0) (400) (by decide) (by decide)) ?_
    refine ev_if_ne rfl rfl (fun c_17 => ?_) (fun c_17 => ?_)
    · obtain ⟨j, hj, rfl⟩ := z_hask (B.nI (u := 12) (hB 63 5)).1 (B.nI (u := 12) (hB 63 5)).2 (by decide) c_5
      have hj12 := (B.nI (u := 12) (hB 63 5)).2
      have ej := nI_clamp (show j < 2 ^ 31 by omega)
      refine ev_aload_n rfl rfl rfl ?_
      refine ev_getI rfl rfl fl_X10_19 rfl rfl rfl ?_
      refine ev_iconst (v := 1) rfl rfl (by decide) ?_
      refine ev_iadd rfl rfl ?_
      refine ev_istore_n rfl rfl rfl rfl ?_
      dsimp only [List.set]
      have ev := (B.nI (u := 200) (hB 63 3)).1
      have lv := (B.nI (u := 200) (hB 63 3)).2
      rw [show m_hold h (nI j) d = r_mh (h 63 3) (s_mhd h j d ((h 63 3).toNatClampNeg + 1)) from by simp only [m_hold, if_neg c_5, if_neg c_17, ej]]
      have z_ := l_mhold1 L b h j (by omega) d ((h 63 3).toNatClampNeg + 1) (by omega)
      rw [← nI_1, ← ev] at z_
      exact z_
    · refine ev_iconst (v := (-1)) rfl rfl (by decide) ?_
      exact ev_iret rfl rfl rfl (⟨congrArg (fun z => some (Value.int z)) (by simp only [m_hold, if_neg c_5, if_pos c_17]), rfl, rfl⟩)

theorem mhd_le (h : Hp) (w : Nat) (d : Int32) : ∀ t, s_mhd h w d t ≤ t
  | 0 => Nat.le_refl 0
  | t + 1 => by
    have ih := mhd_le h w d t
    unfold s_mhd
    split
    · exact Nat.le_refl _
    · omega
theorem hd_eq {h : Hp} {w : Nat} (hW : RW1 h w) (d : Int32) : ∀ t l, s_hd h w d t l = if s_mhd h w d t = t then l else nI (s_mhd h w d t)
  | 0, l => by
    show l = if (0 : Nat) = 0 then l else nI 0
    rw [if_pos rfl]
  | t + 1, l => by
    have ih := hd_eq hW d t (nI t)
    have le := mhd_le h w d t
    have eo := off_eq hW (nI t)
    have ea : z_abs (o_moff h w (nI t)) = z_sz (o_moff h w (nI t)) := rfl
    unfold s_hd s_mhd
    by_cases c' : d < z_sz (o_moff h w (nI t))
    case neg =>
      have c : z_sz (o_moff h w (nI t)) ≤ d := Int32.not_lt.mp c'
      have n : z_near (o_off h w (nI t)) d = 1 := by
        unfold z_near
        rw [eo, ea, if_neg c']
      rw [n, if_neg (by decide), if_neg c', if_neg (by omega), ih]
      by_cases y : s_mhd h w d t = t
      · rw [if_pos y, y]
      · rw [if_neg y]
    case pos =>
      have n : z_near (o_off h w (nI t)) d = 0 := by
        unfold z_near
        rw [eo, ea, if_pos c']
      rw [if_pos n, if_pos c', if_pos rfl]
theorem ho_eq {h : Hp} (hB : Bx h) (hE : RE h) (w d : Int32) : r_hold h w d = m_hold h w d := by
  obtain ⟨⟨b0, b1, b2, b3, b4⟩, hW, -⟩ := hE
  have l12 : nW h ≤ 12 := (B.nI (u := 12) (hB 4 7)).2
  have ev := (B.nI (u := 200) (hB 63 3)).1
  have lv := (B.nI (u := 200) (hB 63 3)).2
  unfold r_hold m_hold
  rw [hW.1, b3]
  by_cases q0 : z_has w (h 63 5) = 0
  · rw [if_pos q0, if_pos q0]
  · rw [if_neg q0, if_neg q0]
    by_cases q1 : z_wi d 0 400 = 0
    · rw [if_pos q1, if_pos q1]
    · rw [if_neg q1, if_neg q1]
      obtain ⟨j, hj, rfl⟩ := z_hask (B.nI (u := 12) (hB 63 5)).1 (B.nI (u := 12) (hB 63 5)).2 (by decide) q0
      have hjn : j < nW h := by unfold nW; rw [hW.1]; exact hj
      have ej := nI_clamp (show j < 2 ^ 31 by omega)
      have le := mhd_le h j d ((h 63 3).toNatClampNeg + 1)
      rw [ej, hd_eq (hW.2.1 j hjn)]
      unfold r_mh
      generalize (h 63 3).toNatClampNeg = V at *
      generalize s_mhd h j d (V + 1) = x at *
      have e1 := nI_toInt (show V < 2 ^ 31 by omega)
      have e2 := nI_toInt (show x < 2 ^ 31 by omega)
      by_cases y : x = V + 1
      · rw [if_pos y, if_neg (fun z => by have := w_le z; rw [ev] at this; omega)]
      · rw [if_neg y, if_pos (Int32.le_iff_toInt_le.mpr (by rw [ev]; omega))]

