set_option maxRecDepth 100000 in
set_option maxHeartbeats 4000000 in
theorem m_fire (L : Nat) (b : Bool) (h : Hp) (hx : h 63 13 = 0) (v : Int32) : EvX mi_X10_fire [.ref 63, .int v] (G0 L b) h (if z_wi v 0 9 = 0 then -1 else h 63 2) := by
  refine EvM.of2 (lo := [some (.ref 63), some (.int v), none]) pf_X10_fire ok_X10_fire rfl rfl ?_
  refine ev_iload_n rfl rfl rfl ?_
  refine ev_i2l rfl rfl ?_
  refine ev_lconst (v := 0) rfl rfl rfl ?_
  refine ev_ldc2 rfl rfl kc_X10_134 ?_
  refine ev_S3D rfl rfl lk_X10_124 st_X10_in rfl rfl (c_inw _ _ _ (0) (9) (by decide) (by decide)) ?_
  refine ev_if_ne rfl rfl (fun c_9 => ?_) (fun c_9 => ?_)
  · refine ev_aload_n rfl rfl rfl ?_
    refine ev_V0U rfl rfl lk_X10_136 vt_X10_keeps rfl rfl rfl rfl rfl (c_mkeeps _ _ _ 0 (by decide) hx) ?_
    refine ev_aload_n rfl rfl rfl ?_
    refine ev_getI rfl rfl fl_X10_16 rfl rfl rfl ?_
    try simp (disch := omega) only [k_mkeep, ev_rd1, ev_rd2, ev_rd3, k_mk_ne]
    refine ev_istore_n rfl rfl rfl rfl ?_
    dsimp only [List.set]
    refine ev_aload_n rfl rfl rfl ?_
    refine ev_iload_n rfl rfl rfl ?_
    refine ev_putI rfl rfl fl_X10_16 rfl rfl rfl rfl rfl ?_
    refine ev_iload_n rfl rfl rfl ?_
    exact ev_iret rfl rfl rfl (⟨congrArg (fun z => some (Value.int z)) (by simp only [if_neg c_9]), rfl⟩)
  · refine ev_iconst (v := (-1)) rfl rfl (by decide) ?_
    exact ev_iret rfl rfl rfl (⟨congrArg (fun z => some (Value.int z)) (by simp only [if_pos c_9]), rfl⟩)

def z_cap (x : Int32) : Int32 := if x ≤ 9999 then x else 9999
theorem z_cap_min (x : Int32) : z_min 9999 x = z_cap x := by
  unfold z_min z_cap
  by_cases q : x < 9999
  · rw [if_pos q, if_pos (Int32.le_of_lt q)]
  · rw [if_neg q]
    by_cases q2 : x ≤ 9999
    · rw [if_pos q2]
      exact Int32.le_antisymm (Int32.not_lt.mp q) q2
    · rw [if_neg q2]

set_option maxRecDepth 100000 in
set_option maxHeartbeats 4000000 in
theorem m_water (L : Nat) (b : Bool) (h : Hp) (hx : h 63 13 = 0) (v : Int32) : EvX mi_X10_water [.ref 63, .int v] (G0 L b) h (if z_wi v 1 9999 = 0 then -1 else z_min 9999 (h 63 1 + v)) := by
  refine EvM.of2 (lo := [some (.ref 63), some (.int v)]) pf_X10_water ok_X10_water rfl rfl ?_
  refine ev_iload_n rfl rfl rfl ?_
  refine ev_i2l rfl rfl ?_
  refine ev_lconst (v := 1) rfl rfl rfl ?_
  refine ev_ldc2 rfl rfl kc_X10_139 ?_
  refine ev_S3D rfl rfl lk_X10_124 st_X10_in rfl rfl (c_inw _ _ _ (1) (9999) (by decide) (by decide)) ?_
  refine ev_if_ne rfl rfl (fun c_9 => ?_) (fun c_9 => ?_)
  · refine ev_aload_n rfl rfl rfl ?_
    refine ev_V0U rfl rfl lk_X10_136 vt_X10_keeps rfl rfl rfl rfl rfl (c_mkeeps _ _ _ 0 (by decide) hx) ?_
    refine ev_aload_n rfl rfl rfl ?_
    refine ev_aload_n rfl rfl rfl ?_
    refine ev_getI rfl rfl fl_X10_13 rfl rfl rfl ?_
    try simp (disch := omega) only [k_mkeep, ev_rd1, ev_rd2, ev_rd3, k_mk_ne]
    refine ev_iload_n rfl rfl rfl ?_
    refine ev_iadd rfl rfl ?_
    refine ev_sipush (v := 9999) rfl rfl (by decide) ?_
    refine ev_icmp_le rfl rfl (fun c_28 => ?_) (fun c_28 => ?_)
    · refine ev_aload_n rfl rfl rfl ?_
      refine ev_getI rfl rfl fl_X10_13 rfl rfl rfl ?_
      try simp (disch := omega) only [k_mkeep, ev_rd1, ev_rd2, ev_rd3, k_mk_ne]
      refine ev_iload_n rfl rfl rfl ?_
      refine ev_iadd rfl rfl ?_
      refine ev_putI rfl rfl fl_X10_13 rfl rfl rfl rfl rfl ?_
      refine ev_aload_n rfl rfl rfl ?_
      refine ev_getI rfl rfl fl_X10_13 rfl rfl rfl ?_
      try simp (disch := omega) only [k_mkeep, ev_rd1, ev_rd2, ev_rd3, k_mk_ne]
      exact ev_iret rfl rfl rfl (⟨congrArg (fun z => some (Value.int z)) (by simp only [z_cap_min, z_cap, if_neg c_9, if_pos c_28]), rfl⟩)
    · refine ev_sipush (v := 9999) rfl rfl (by decide) ?_
      refine ev_goto rfl rfl ?_
      refine ev_putI rfl rfl fl_X10_13 rfl rfl rfl rfl rfl ?_
      refine ev_aload_n rfl rfl rfl ?_
      refine ev_getI rfl rfl fl_X10_13 rfl rfl rfl ?_
      try simp (disch := omega) only [k_mkeep, ev_rd1, ev_rd2, ev_rd3, k_mk_ne]
      exact ev_iret rfl rfl rfl (⟨congrArg (fun z => some (Value.int z)) (by simp only [z_cap_min, z_cap, if_neg c_9, if_neg c_28]), rfl⟩)
  · refine ev_iconst (v := (-1)) rfl rfl (by decide) ?_
    exact ev_iret rfl rfl rfl (⟨congrArg (fun z => some (Value.int z)) (by simp only [if_pos c_9]), rfl⟩)

set_option maxRecDepth 100000 in
set_option maxHeartbeats 4000000 in
theorem m_valve (L : Nat) (b : Bool) (h : Hp) (hx : h 63 13 = 0) (v : Int32) : EvX mi_X10_valve [.ref 63, .int v] (G0 L b) h (if z_wi v 50 200 = 0 then -1 else h 63 3) := by
  refine EvM.of2 (lo := [some (.ref 63), some (.int v), none]) pf_X10_valve ok_X10_valve rfl rfl ?_
  refine ev_iload_n rfl rfl rfl ?_
  refine ev_i2l rfl rfl ?_
  refine ev_ldc2 rfl rfl kc_X10_141 ?_
  refine ev_ldc2 rfl rfl kc_X10_143 ?_
  refine ev_S3D rfl rfl lk_X10_124 st_X10_in rfl rfl (c_inw _ _ _ (50) (200) (by decide) (by decide)) ?_
  refine ev_if_ne rfl rfl (fun c_11 => ?_) (fun c_11 => ?_)
  · refine ev_aload_n rfl rfl rfl ?_
    refine ev_V0U rfl rfl lk_X10_136 vt_X10_keeps rfl rfl rfl rfl rfl (c_mkeeps _ _ _ 0 (by decide) hx) ?_
    refine ev_aload_n rfl rfl rfl ?_
    refine ev_getI rfl rfl fl_X10_19 rfl rfl rfl ?_
    try simp (disch := omega) only [k_mkeep, ev_rd1, ev_rd2, ev_rd3, k_mk_ne]
    refine ev_istore_n rfl rfl rfl rfl ?_
    dsimp only [List.set]
    refine ev_aload_n rfl rfl rfl ?_
    refine ev_iload_n rfl rfl rfl ?_
    refine ev_putI rfl rfl fl_X10_19 rfl rfl rfl rfl rfl ?_
    refine ev_aload_n rfl rfl rfl ?_
    refine ev_aload_n rfl rfl rfl ?_
    refine ev_getI rfl rfl fl_X10_7 rfl rfl rfl ?_
    try simp (disch := omega) only [k_mkeep, ev_rd1, ev_rd2, ev_rd3, k_mk_ne]
    refine ev_iload_n rfl rfl rfl ?_
    refine ev_icmp_le rfl rfl (fun c_36 => ?_) (fun c_36 => ?_)
    · refine ev_aload_n rfl rfl rfl ?_
      refine ev_getI rfl rfl fl_X10_7 rfl rfl rfl ?_
      try simp (disch := omega) only [k_mkeep, ev_rd1, ev_rd2, ev_rd3, k_mk_ne]
      refine ev_putI rfl rfl fl_X10_7 rfl rfl rfl rfl rfl ?_
      refine ev_iload_n rfl rfl rfl ?_
      exact ev_iret rfl rfl rfl (⟨congrArg (fun z => some (Value.int z)) (by simp only [if_neg c_11, if_pos c_36]), rfl⟩)
    · refine ev_iload_n rfl rfl rfl ?_
      refine ev_goto rfl rfl ?_
      refine ev_putI rfl rfl fl_X10_7 rfl rfl rfl rfl rfl ?_
      refine ev_iload_n rfl rfl rfl ?_
      exact ev_iret rfl rfl rfl (⟨congrArg (fun z => some (Value.int z)) (by simp only [if_neg c_11, if_neg c_36]), rfl⟩)
  · refine ev_iconst (v := (-1)) rfl rfl (by decide) ?_
    exact ev_iret rfl rfl rfl (⟨congrArg (fun z => some (Value.int z)) (by simp only [if_pos c_11]), rfl⟩)

set_option maxRecDepth 100000 in
set_option maxHeartbeats 4000000 in
theorem m_pressure (L : Nat) (b : Bool) (h : Hp) (hx : h 63 13 = 0) (v : Int32) : EvX mi_X10_pressure [.ref 63, .int v] (G0 L b) h (if z_wi v 0 (h 63 3) = 0 then -1 else h 63 0) := by
  refine EvM.of2 (lo := [some (.ref 63), some (.int v), none]) pf_X10_pressure ok_X10_pressure rfl rfl ?_
  refine ev_iload_n rfl rfl rfl ?_
  refine ev_i2l rfl rfl ?_
  refine ev_lconst (v := 0) rfl rfl rfl ?_
  refine ev_aload_n rfl rfl rfl ?_
  refine ev_getI rfl rfl fl_X10_19 rfl rfl rfl ?_
  refine ev_i2l rfl rfl ?_
  refine ev_S3D rfl rfl lk_X10_124 st_X10_in rfl rfl (c_inw _ _ _ (0) (h 63 3) (by decide) rfl) ?_
  refine ev_if_ne rfl rfl (fun c_11 => ?_) (fun c_11 => ?_)
  · refine ev_aload_n rfl rfl rfl ?_
    refine ev_V0U rfl rfl lk_X10_136 vt_X10_keeps rfl rfl rfl rfl rfl (c_mkeeps _ _ _ 0 (by decide) hx) ?_
    refine ev_aload_n rfl rfl rfl ?_
    refine ev_getI rfl rfl fl_X10_7 rfl rfl rfl ?_
    try simp (disch := omega) only [k_mkeep, ev_rd1, ev_rd2, ev_rd3, k_mk_ne]
    refine ev_istore_n rfl rfl rfl rfl ?_
    dsimp only [List.set]
    refine ev_aload_n rfl rfl rfl ?_
    refine ev_iload_n rfl rfl rfl ?_
    refine ev_putI rfl rfl fl_X10_7 rfl rfl rfl rfl rfl ?_
    refine ev_iload_n rfl rfl rfl ?_
    exact ev_iret rfl rfl rfl (⟨congrArg (fun z => some (Value.int z)) (by simp only [if_neg c_11]), rfl⟩)
  · refine ev_iconst (v := (-1)) rfl rfl (by decide) ?_
    exact ev_iret rfl rfl rfl (⟨congrArg (fun z => some (Value.int z)) (by simp only [if_pos c_11]), rfl⟩)

set_option maxRecDepth 100000 in
set_option maxHeartbeats 4000000 in
theorem m_drawn (L : Nat) (b : Bool) (h : Hp) (hw : h 63 5 = 0) (c : Int32) : EvD mi_X10_drawn [.ref 63, .int c] (G0 L b) h (0) (h) := by
  refine EvD.of (lo := [some (.ref 63), some (.int c), none, none]) pf_X10_drawn ok_X10_drawn rfl rfl ?_
  refine ev_iconst (v := 0) rfl rfl (by decide) ?_
  refine ev_istore_n rfl rfl rfl rfl ?_
  dsimp only [List.set]
  refine ev_iconst (v := 0) rfl rfl (by decide) ?_
  refine ev_istore_n rfl rfl rfl rfl ?_
  dsimp only [List.set]
  refine ev_iload_n rfl rfl rfl ?_
  refine ev_aload_n rfl rfl rfl ?_
  refine ev_getI rfl rfl fl_X10_121 rfl rfl rfl ?_
  refine ev_icmp_ge rfl rfl (fun c_9 => ?_) (fun z_ => absurd (by rw [hw]; exact Int32.le_refl _) z_)
  refine ev_iload_n rfl rfl rfl ?_
  exact ev_iret rfl rfl rfl (⟨rfl, rfl, rfl⟩)

set_option maxRecDepth 100000 in
set_option maxHeartbeats 4000000 in
theorem m_strayOf (L : Nat) (b : Bool) (h : Hp) (hw : h 63 5 = 0) (c p : Int32) : EvD mi_X10_strayOf [.ref 63, .int c, .int p] (G0 L b) h (0) (h) := by
  refine EvD.of (lo := [some (.ref 63), some (.int c), some (.int p), none, none, none]) pf_X10_strayOf ok_X10_strayOf rfl rfl ?_
  refine ev_iconst (v := 0) rfl rfl (by decide) ?_
  refine ev_istore_n rfl rfl rfl rfl ?_
  dsimp only [List.set]
  refine ev_iconst (v := 0) rfl rfl (by decide) ?_
  refine ev_istore rfl rfl rfl rfl ?_
  dsimp only [List.set]
  refine ev_iload rfl rfl rfl ?_
  refine ev_aload_n rfl rfl rfl ?_
  refine ev_getI rfl rfl fl_X10_121 rfl rfl rfl ?_
  refine ev_icmp_ge rfl rfl (fun c_11 => ?_) (fun z_ => absurd (by rw [hw]; exact Int32.le_refl _) z_)
  refine ev_iload_n rfl rfl rfl ?_
  exact ev_iret rfl rfl rfl (⟨rfl, rfl, rfl⟩)

set_option maxRecDepth 100000 in
set_option maxHeartbeats 4000000 in
theorem m_isWhistle (L : Nat) (b : Bool) (h : Hp) (hw : h 63 5 = 0) (w : Int32) : EvD mi_X10_isWhistle [.ref 63, .int w] (G0 L b) h (0) (h) := by
  refine EvD.of (lo := [some (.ref 63), some (.int w)]) pf_X10_isWhistle ok_X10_isWhistle rfl rfl ?_
  refine ev_iload_n rfl rfl rfl ?_
  refine ev_i2l rfl rfl ?_
  refine ev_lconst (v := 0) rfl rfl rfl ?_
  refine ev_aload_n rfl rfl rfl ?_
  refine ev_getI rfl rfl fl_X10_121 rfl rfl rfl ?_
  refine ev_iconst (v := 1) rfl rfl (by decide) ?_
  refine ev_isub rfl rfl ?_
  refine ev_i2l rfl rfl ?_
  refine ev_S3D rfl rfl lk_X10_124 st_X10_in rfl rfl (c_inw _ _ _ (0) (h 63 5 - 1) (by decide) rfl) ?_
  rw [hw, z_wi_no]
  exact ev_iret rfl rfl rfl (⟨rfl, rfl, rfl⟩)

set_option maxRecDepth 100000 in
set_option maxHeartbeats 4000000 in
theorem m_isTune (L : Nat) (b : Bool) (h : Hp) (ht : h 63 23 = 0) (w : Int32) : EvD mi_X10_isTune [.ref 63, .int w] (G0 L b) h (0) (h) := by
  refine EvD.of (lo := [some (.ref 63), some (.int w)]) pf_X10_isTune ok_X10_isTune rfl rfl ?_
  refine ev_iload_n rfl rfl rfl ?_
  refine ev_i2l rfl rfl ?_
  refine ev_lconst (v := 0) rfl rfl rfl ?_
  refine ev_aload_n rfl rfl rfl ?_
  refine ev_getI rfl rfl fl_X10_257 rfl rfl rfl ?_
  refine ev_iconst (v := 1) rfl rfl (by decide) ?_
  refine ev_isub rfl rfl ?_
  refine ev_i2l rfl rfl ?_
  refine ev_S3D rfl rfl lk_X10_124 st_X10_in rfl rfl (c_inw _ _ _ (0) (h 63 23 - 1) (by decide) rfl) ?_
  rw [ht, z_wi_no]
  exact ev_iret rfl rfl rfl (⟨rfl, rfl, rfl⟩)

set_option maxRecDepth 100000 in
set_option maxHeartbeats 4000000 in
theorem m_boiler (L : Nat) (b : Bool) (h : Hp) (hw : h 63 5 = 0) (q : Int32) : EvX mi_X10_boiler [.ref 63, .int q] (G0 L b) h (if q = 0 then h 63 0 else if q = 1 then h 63 1 else if q = 2 then h 63 2 else if q = 3 then h 63 3 else if q = 4 then h 63 4 else if q = 5 then 0 else -1) := by
  refine EvM.of2 (lo := [some (.ref 63), some (.int q)]) pf_X10_boiler ok_X10_boiler rfl rfl ?_
  refine ev_iload_n rfl rfl rfl ?_
  refine ev_if_ne rfl rfl (fun c_1 => ?_) (fun c_1 => ?_)
  · refine ev_iload_n rfl rfl rfl ?_
    refine ev_iconst (v := 1) rfl rfl (by decide) ?_
    refine ev_icmp_ne rfl rfl (fun c_13 => ?_) (fun c_13 => ?_)
    · refine ev_iload_n rfl rfl rfl ?_
      refine ev_iconst (v := 2) rfl rfl (by decide) ?_
      refine ev_icmp_ne rfl rfl (fun c_25 => ?_) (fun c_25 => ?_)
      · refine ev_iload_n rfl rfl rfl ?_
        refine ev_iconst (v := 3) rfl rfl (by decide) ?_
        refine ev_icmp_ne rfl rfl (fun c_37 => ?_) (fun c_37 => ?_)
        · refine ev_iload_n rfl rfl rfl ?_
          refine ev_iconst (v := 4) rfl rfl (by decide) ?_
          refine ev_icmp_ne rfl rfl (fun c_49 => ?_) (fun c_49 => ?_)
          · refine ev_iload_n rfl rfl rfl ?_
            refine ev_iconst (v := 5) rfl rfl (by decide) ?_
            refine ev_icmp_ne rfl rfl (fun c_61 => ?_) (fun c_61 => ?_)
            · refine ev_iconst (v := (-1)) rfl rfl (by decide) ?_
              exact ev_iret rfl rfl rfl (⟨congrArg (fun z => some (Value.int z)) (by simp only [if_neg c_1, if_neg c_13, if_neg c_25, if_neg c_37, if_neg c_49, if_neg c_61]), rfl⟩)
            · refine ev_aload_n rfl rfl rfl ?_
              refine ev_iconst (v := 0) rfl rfl (by decide) ?_
              refine ev_V1D rfl rfl lk_X10_145 vt_X10_drawn rfl rfl rfl rfl rfl (m_drawn _ _ _ hw _) ?_
              refine ev_goto rfl rfl ?_
              exact ev_iret rfl rfl rfl (⟨congrArg (fun z => some (Value.int z)) (by simp only [if_neg c_1, if_neg c_13, if_neg c_25, if_neg c_37, if_neg c_49, if_pos c_61]), rfl⟩)
          · refine ev_aload_n rfl rfl rfl ?_
            refine ev_getI rfl rfl fl_X10_131 rfl rfl rfl ?_
            try simp (disch := omega) only [k_mkeep, ev_rd1, ev_rd2, ev_rd3, k_mk_ne]
            refine ev_goto rfl rfl ?_
            exact ev_iret rfl rfl rfl (⟨congrArg (fun z => some (Value.int z)) (by simp only [if_neg c_1, if_neg c_13, if_neg c_25, if_neg c_37, if_pos c_49]), rfl⟩)
        · refine ev_aload_n rfl rfl rfl ?_
          refine ev_getI rfl rfl fl_X10_19 rfl rfl rfl ?_
          try simp (disch := omega) only [k_mkeep, ev_rd1, ev_rd2, ev_rd3, k_mk_ne]
          refine ev_goto rfl rfl ?_
          exact ev_iret rfl rfl rfl (⟨congrArg (fun z => some (Value.int z)) (by simp only [if_neg c_1, if_neg c_13, if_neg c_25, if_pos c_37]), rfl⟩)
      · refine ev_aload_n rfl rfl rfl ?_
        refine ev_getI rfl rfl fl_X10_16 rfl rfl rfl ?_
        try simp (disch := omega) only [k_mkeep, ev_rd1, ev_rd2, ev_rd3, k_mk_ne]
        refine ev_goto rfl rfl ?_
        exact ev_iret rfl rfl rfl (⟨congrArg (fun z => some (Value.int z)) (by simp only [if_neg c_1, if_neg c_13, if_pos c_25]), rfl⟩)
    · refine ev_aload_n rfl rfl rfl ?_
      refine ev_getI rfl rfl fl_X10_13 rfl rfl rfl ?_
      try simp (disch := omega) only [k_mkeep, ev_rd1, ev_rd2, ev_rd3, k_mk_ne]
      refine ev_goto rfl rfl ?_
      exact ev_iret rfl rfl rfl (⟨congrArg (fun z => some (Value.int z)) (by simp only [if_neg c_1, if_pos c_13]), rfl⟩)
  · refine ev_aload_n rfl rfl rfl ?_
    refine ev_getI rfl rfl fl_X10_7 rfl rfl rfl ?_
    try simp (disch := omega) only [k_mkeep, ev_rd1, ev_rd2, ev_rd3, k_mk_ne]
    refine ev_goto rfl rfl ?_
    exact ev_iret rfl rfl rfl (⟨congrArg (fun z => some (Value.int z)) (by simp only [if_pos c_1]), rfl⟩)

set_option maxRecDepth 100000 in
set_option maxHeartbeats 4000000 in
theorem m_goes (L : Nat) (b : Bool) (h : Hp) (hw : h 63 5 = 0) (hv : 0 ≤ h 63 1) (c : Int32) : EvX mi_X10_goes [.ref 63, .int c] (G0 L b) h (0) := by
  refine EvM.of2 (lo := [some (.ref 63), some (.int c), none, none]) pf_X10_goes ok_X10_goes rfl rfl ?_
  refine ev_aload_n rfl rfl rfl ?_
  refine ev_iload_n rfl rfl rfl ?_
  refine ev_V1D rfl rfl lk_X10_145 vt_X10_drawn rfl rfl rfl rfl rfl (m_drawn _ _ _ hw _) ?_
  refine ev_istore_n rfl rfl rfl rfl ?_
  dsimp only [List.set]
  refine ev_iload_n rfl rfl rfl ?_
  refine ev_aload_n rfl rfl rfl ?_
  refine ev_getI rfl rfl fl_X10_13 rfl rfl rfl ?_
  try simp (disch := omega) only [k_mkeep, ev_rd1, ev_rd2, ev_rd3, k_mk_ne]
  refine ev_icmp_le rfl rfl (fun c_11 => ?_) (fun z_ => absurd hv z_)
  refine ev_aload_n rfl rfl rfl ?_
  refine ev_iload_n rfl rfl rfl ?_
  refine ev_aload_n rfl rfl rfl ?_
  refine ev_getI rfl rfl fl_X10_7 rfl rfl rfl ?_
  try simp (disch := omega) only [k_mkeep, ev_rd1, ev_rd2, ev_rd3, k_mk_ne]
  refine ev_V2D rfl rfl lk_X10_159 vt_X10_strayOf rfl rfl rfl rfl rfl (m_strayOf _ _ _ hw _ _) ?_
  refine ev_istore_n rfl rfl rfl rfl ?_
  dsimp only [List.set]
  refine ev_aload_n rfl rfl rfl ?_
  refine ev_dup rfl rfl rfl ?_
  refine ev_getI rfl rfl fl_X10_13 rfl rfl rfl ?_
  try simp (disch := omega) only [k_mkeep, ev_rd1, ev_rd2, ev_rd3, k_mk_ne]
  refine ev_iload_n rfl rfl rfl ?_
  refine ev_isub rfl rfl ?_
  refine ev_putI rfl rfl fl_X10_13 rfl rfl rfl rfl rfl ?_
  refine ev_aload_n rfl rfl rfl ?_
  refine ev_dup rfl rfl rfl ?_
  refine ev_getI rfl rfl fl_X10_7 rfl rfl rfl ?_
  try simp (disch := omega) only [k_mkeep, ev_rd1, ev_rd2, ev_rd3, k_mk_ne]
  refine ev_aload_n rfl rfl rfl ?_
  refine ev_getI rfl rfl fl_X10_13 rfl rfl rfl ?_
  try simp (disch := omega) only [k_mkeep, ev_rd1, ev_rd2, ev_rd3, k_mk_ne]
  refine ev_if_le rfl rfl (fun c_46 => ?_) (fun c_46 => ?_)
  · refine ev_iconst (v := 0) rfl rfl (by decide) ?_
    refine ev_iload_n rfl rfl rfl ?_
    refine ev_isub rfl rfl ?_
    refine ev_iadd rfl rfl ?_
    refine ev_putI rfl rfl fl_X10_7 rfl rfl rfl rfl rfl ?_
    refine ev_aload_n rfl rfl rfl ?_
    refine ev_aload_n rfl rfl rfl ?_
    refine ev_getI rfl rfl fl_X10_7 rfl rfl rfl ?_
    try simp (disch := omega) only [k_mkeep, ev_rd1, ev_rd2, ev_rd3, k_mk_ne]
    refine ev_if_ge rfl rfl (fun c_70 => ?_) (fun c_70 => ?_)
    · refine ev_aload_n rfl rfl rfl ?_
      refine ev_getI rfl rfl fl_X10_7 rfl rfl rfl ?_
      try simp (disch := omega) only [k_mkeep, ev_rd1, ev_rd2, ev_rd3, k_mk_ne]
      refine ev_putI rfl rfl fl_X10_7 rfl rfl rfl rfl rfl ?_
      refine ev_aload_n rfl rfl rfl ?_
      refine ev_getI rfl rfl fl_X10_7 rfl rfl rfl ?_
      try simp (disch := omega) only [k_mkeep, ev_rd1, ev_rd2, ev_rd3, k_mk_ne]
      refine ev_aload_n rfl rfl rfl ?_
      refine ev_getI rfl rfl fl_X10_19 rfl rfl rfl ?_
      try simp (disch := omega) only [k_mkeep, ev_rd1, ev_rd2, ev_rd3, k_mk_ne]
      refine ev_icmp_le rfl rfl (fun c_92 => ?_) (fun c_92 => ?_)
      · refine ev_iload_n rfl rfl rfl ?_
        exact ev_iret rfl rfl rfl (⟨rfl, rfl⟩)
      · refine ev_aload_n rfl rfl rfl ?_
        refine ev_aload_n rfl rfl rfl ?_
        refine ev_getI rfl rfl fl_X10_13 rfl rfl rfl ?_
        try simp (disch := omega) only [k_mkeep, ev_rd1, ev_rd2, ev_rd3, k_mk_ne]
        refine ev_aload_n rfl rfl rfl ?_
        refine ev_getI rfl rfl fl_X10_7 rfl rfl rfl ?_
        try simp (disch := omega) only [k_mkeep, ev_rd1, ev_rd2, ev_rd3, k_mk_ne]
        refine ev_aload_n rfl rfl rfl ?_
        refine ev_getI rfl rfl fl_X10_19 rfl rfl rfl ?_
        try simp (disch := omega) only [k_mkeep, ev_rd1, ev_rd2, ev_rd3, k_mk_ne]
        refine ev_isub rfl rfl ?_
        refine ev_icmp_ge rfl rfl (fun c_109 => ?_) (fun c_109 => ?_)
        · refine ev_aload_n rfl rfl rfl ?_
          refine ev_getI rfl rfl fl_X10_13 rfl rfl rfl ?_
          try simp (disch := omega) only [k_mkeep, ev_rd1, ev_rd2, ev_rd3, k_mk_ne]
          refine ev_aload_n rfl rfl rfl ?_
          refine ev_getI rfl rfl fl_X10_7 rfl rfl rfl ?_
          try simp (disch := omega) only [k_mkeep, ev_rd1, ev_rd2, ev_rd3, k_mk_ne]
          refine ev_aload_n rfl rfl rfl ?_
          refine ev_getI rfl rfl fl_X10_19 rfl rfl rfl ?_
          try simp (disch := omega) only [k_mkeep, ev_rd1, ev_rd2, ev_rd3, k_mk_ne]
          refine ev_isub rfl rfl ?_
          refine ev_isub rfl rfl ?_
          refine ev_putI rfl rfl fl_X10_13 rfl rfl rfl rfl rfl ?_
          refine ev_aload_n rfl rfl rfl ?_
          refine ev_aload_n rfl rfl rfl ?_
          refine ev_getI rfl rfl fl_X10_19 rfl rfl rfl ?_
          try simp (disch := omega) only [k_mkeep, ev_rd1, ev_rd2, ev_rd3, k_mk_ne]
          refine ev_putI rfl rfl fl_X10_7 rfl rfl rfl rfl rfl ?_
          refine ev_aload_n rfl rfl rfl ?_
          refine ev_dup rfl rfl rfl ?_
          refine ev_getI rfl rfl fl_X10_131 rfl rfl rfl ?_
          try simp (disch := omega) only [k_mkeep, ev_rd1, ev_rd2, ev_rd3, k_mk_ne]
          refine ev_iconst (v := 1) rfl rfl (by decide) ?_
          refine ev_iadd rfl rfl ?_
          refine ev_putI rfl rfl fl_X10_131 rfl rfl rfl rfl rfl ?_
          refine ev_iload_n rfl rfl rfl ?_
          exact ev_iret rfl rfl rfl (⟨rfl, rfl⟩)
        · refine ev_iconst (v := 0) rfl rfl (by decide) ?_
          refine ev_goto rfl rfl ?_
          refine ev_putI rfl rfl fl_X10_13 rfl rfl rfl rfl rfl ?_
          refine ev_aload_n rfl rfl rfl ?_
          refine ev_aload_n rfl rfl rfl ?_
          refine ev_getI rfl rfl fl_X10_19 rfl rfl rfl ?_
          try simp (disch := omega) only [k_mkeep, ev_rd1, ev_rd2, ev_rd3, k_mk_ne]
          refine ev_putI rfl rfl fl_X10_7 rfl rfl rfl rfl rfl ?_
          refine ev_aload_n rfl rfl rfl ?_
          refine ev_dup rfl rfl rfl ?_
          refine ev_getI rfl rfl fl_X10_131 rfl rfl rfl ?_
          try simp (disch := omega) only [k_mkeep, ev_rd1, ev_rd2, ev_rd3, k_mk_ne]
          refine ev_iconst (v := 1) rfl rfl (by decide) ?_
          refine ev_iadd rfl rfl ?_
          refine ev_putI rfl rfl fl_X10_131 rfl rfl rfl rfl rfl ?_
          refine ev_iload_n rfl rfl rfl ?_
          exact ev_iret rfl rfl rfl (⟨rfl, rfl⟩)
    · refine ev_iconst (v := 0) rfl rfl (by decide) ?_
      refine ev_goto rfl rfl ?_
      refine ev_putI rfl rfl fl_X10_7 rfl rfl rfl rfl rfl ?_
      refine ev_aload_n rfl rfl rfl ?_
      refine ev_getI rfl rfl fl_X10_7 rfl rfl rfl ?_
      try simp (disch := omega) only [k_mkeep, ev_rd1, ev_rd2, ev_rd3, k_mk_ne]
      refine ev_aload_n rfl rfl rfl ?_
      refine ev_getI rfl rfl fl_X10_19 rfl rfl rfl ?_
      try simp (disch := omega) only [k_mkeep, ev_rd1, ev_rd2, ev_rd3, k_mk_ne]
      refine ev_icmp_le rfl rfl (fun c_92 => ?_) (fun c_92 => ?_)
      · refine ev_iload_n rfl rfl rfl ?_
        exact ev_iret rfl rfl rfl (⟨rfl, rfl⟩)
      · refine ev_aload_n rfl rfl rfl ?_
        refine ev_aload_n rfl rfl rfl ?_
        refine ev_getI rfl rfl fl_X10_13 rfl rfl rfl ?_
        try simp (disch := omega) only [k_mkeep, ev_rd1, ev_rd2, ev_rd3, k_mk_ne]
        refine ev_aload_n rfl rfl rfl ?_
        refine ev_getI rfl rfl fl_X10_7 rfl rfl rfl ?_
        try simp (disch := omega) only [k_mkeep, ev_rd1, ev_rd2, ev_rd3, k_mk_ne]
        refine ev_aload_n rfl rfl rfl ?_
        refine ev_getI rfl rfl fl_X10_19 rfl rfl rfl ?_
        try simp (disch := omega) only [k_mkeep, ev_rd1, ev_rd2, ev_rd3, k_mk_ne]
        refine ev_isub rfl rfl ?_
        refine ev_icmp_ge rfl rfl (fun c_109 => ?_) (fun c_109 => ?_)
        · refine ev_aload_n rfl rfl rfl ?_
          refine ev_getI rfl rfl fl_X10_13 rfl rfl rfl ?_
          try simp (disch := omega) only [k_mkeep, ev_rd1, ev_rd2, ev_rd3, k_mk_ne]
          refine ev_aload_n rfl rfl rfl ?_
          refine ev_getI rfl rfl fl_X10_7 rfl rfl rfl ?_
          try simp (disch := omega) only [k_mkeep, ev_rd1, ev_rd2, ev_rd3, k_mk_ne]
          refine ev_aload_n rfl rfl rfl ?_
          refine ev_getI rfl rfl fl_X10_19 rfl rfl rfl ?_
          try simp (disch := omega) only [k_mkeep, ev_rd1, ev_rd2, ev_rd3, k_mk_ne]
          refine ev_isub rfl rfl ?_
          refine ev_isub rfl rfl ?_
          refine ev_putI rfl rfl fl_X10_13 rfl rfl rfl rfl rfl ?_
          refine ev_aload_n rfl rfl rfl ?_
          refine ev_aload_n rfl rfl rfl ?_
          refine ev_getI rfl rfl fl_X10_19 rfl rfl rfl ?_
          try simp (disch := omega) only [k_mkeep, ev_rd1, ev_rd2, ev_rd3, k_mk_ne]
          refine ev_putI rfl rfl fl_X10_7 rfl rfl rfl rfl rfl ?_
          refine ev_aload_n rfl rfl rfl ?_
          refine ev_dup rfl rfl rfl ?_
          refine ev_getI rfl rfl fl_X10_131 rfl rfl rfl ?_
          try simp (disch := omega) only [k_mkeep, ev_rd1, ev_rd2, ev_rd3, k_mk_ne]
          refine ev_iconst (v := 1) rfl rfl (by decide) ?_
          refine ev_iadd rfl rfl ?_
          refine ev_putI rfl rfl fl_X10_131 rfl rfl rfl rfl rfl ?_
          refine ev_iload_n rfl rfl rfl ?_
          exact ev_iret rfl rfl rfl (⟨rfl, rfl⟩)
        · refine ev_iconst (v := 0) rfl rfl (by decide) ?_
          refine ev_goto rfl rfl ?_
          refine ev_putI rfl rfl fl_X10_13 rfl rfl rfl rfl rfl ?_
          refine ev_aload_n rfl rfl rfl ?_
          refine ev_aload_n rfl rfl rfl ?_
          refine ev_getI rfl rfl fl_X10_19 rfl rfl rfl ?_
          try simp (disch := omega) only [k_mkeep, ev_rd1, ev_rd2, ev_rd3, k_mk_ne]
          refine ev_putI rfl rfl fl_X10_7 rfl rfl rfl rfl rfl ?_
          refine ev_aload_n rfl rfl rfl ?_
          refine ev_dup rfl rfl rfl ?_
          refine ev_getI rfl rfl fl_X10_131 rfl rfl rfl ?_
          try simp (disch := omega) only [k_mkeep, ev_rd1, ev_rd2, ev_rd3, k_mk_ne]
          refine ev_iconst (v := 1) rfl rfl (by decide) ?_
          refine ev_iadd rfl rfl ?_
          refine ev_putI rfl rfl fl_X10_131 rfl rfl rfl rfl rfl ?_
          refine ev_iload_n rfl rfl rfl ?_
          exact ev_iret rfl rfl rfl (⟨rfl, rfl⟩)
  · refine ev_iconst (v := 2) rfl rfl (by decide) ?_
    refine ev_aload_n rfl rfl rfl ?_
    refine ev_getI rfl rfl fl_X10_16 rfl rfl rfl ?_
    try simp (disch := omega) only [k_mkeep, ev_rd1, ev_rd2, ev_rd3, k_mk_ne]
    refine ev_imul rfl rfl ?_
    refine ev_goto rfl rfl ?_
    refine ev_iload_n rfl rfl rfl ?_
    refine ev_isub rfl rfl ?_
    refine ev_iadd rfl rfl ?_
    refine ev_putI rfl rfl fl_X10_7 rfl rfl rfl rfl rfl ?_
    refine ev_aload_n rfl rfl rfl ?_
    refine ev_aload_n rfl rfl rfl ?_
    refine ev_getI rfl rfl fl_X10_7 rfl rfl rfl ?_
    try simp (disch := omega) only [k_mkeep, ev_rd1, ev_rd2, ev_rd3, k_mk_ne]
    refine ev_if_ge rfl rfl (fun c_70 => ?_) (fun c_70 => ?_)
    · refine ev_aload_n rfl rfl rfl ?_
      refine ev_getI rfl rfl fl_X10_7 rfl rfl rfl ?_
      try simp (disch := omega) only [k_mkeep, ev_rd1, ev_rd2, ev_rd3, k_mk_ne]
      refine ev_putI rfl rfl fl_X10_7 rfl rfl rfl rfl rfl ?_
      refine ev_aload_n rfl rfl rfl ?_
      refine ev_getI rfl rfl fl_X10_7 rfl rfl rfl ?_
      try simp (disch := omega) only [k_mkeep, ev_rd1, ev_rd2, ev_rd3, k_mk_ne]
      refine ev_aload_n rfl rfl rfl ?_
      refine ev_getI rfl rfl fl_X10_19 rfl rfl rfl ?_
      try simp (disch := omega) only [k_mkeep, ev_rd1, ev_rd2, ev_rd3, k_mk_ne]
      refine ev_icmp_le rfl rfl (fun c_92 => ?_) (fun c_92 => ?_)
      · refine ev_iload_n rfl rfl rfl ?_
        exact ev_iret rfl rfl rfl (⟨rfl, rfl⟩)
      · refine ev_aload_n rfl rfl rfl ?_
        refine ev_aload_n rfl rfl rfl ?_
        refine ev_getI rfl rfl fl_X10_13 rfl rfl rfl ?_
        try simp (disch := omega) only [k_mkeep, ev_rd1, ev_rd2, ev_rd3, k_mk_ne]
        refine ev_aload_n rfl rfl rfl ?_
        refine ev_getI rfl rfl fl_X10_7 rfl rfl rfl ?_
        try simp (disch := omega) only [k_mkeep, ev_rd1, ev_rd2, ev_rd3, k_mk_ne]
        refine ev_aload_n rfl rfl rfl ?_
        refine ev_getI rfl rfl fl_X10_19 rfl rfl rfl ?_
        try simp (disch := omega) only [k_mkeep, ev_rd1, ev_rd2, ev_rd3, k_mk_ne]
        refine ev_isub rfl rfl ?_
        refine ev_icmp_ge rfl rfl (fun c_109 => ?_) (fun c_109 => ?_)
        · refine ev_aload_n rfl rfl rfl ?_
          refine ev_getI rfl rfl fl_X10_13 rfl rfl rfl ?_
          try simp (disch := omega) only [k_mkeep, ev_rd1, ev_rd2, ev_rd3, k_mk_ne]
          refine ev_aload_n rfl rfl rfl ?_
          refine ev_getI rfl rfl fl_X10_7 rfl rfl rfl ?_
          try simp (disch := omega) only [k_mkeep, ev_rd1, ev_rd2, ev_rd3, k_mk_ne]
          refine ev_aload_n rfl rfl rfl ?_
          refine ev_getI rfl rfl fl_X10_19 rfl rfl rfl ?_
          try simp (disch := omega) only [k_mkeep, ev_rd1, ev_rd2, ev_rd3, k_mk_ne]
          refine ev_isub rfl rfl ?_
          refine ev_isub rfl rfl ?_
          refine ev_putI rfl rfl fl_X10_13 rfl rfl rfl rfl rfl ?_
          refine ev_aload_n rfl rfl rfl ?_
          refine ev_aload_n rfl rfl rfl ?_
          refine ev_getI rfl rfl fl_X10_19 rfl rfl rfl ?_
          try simp (disch := omega) only [k_mkeep, ev_rd1, ev_rd2, ev_rd3, k_mk_ne]
          refine ev_putI rfl rfl fl_X10_7 rfl rfl rfl rfl rfl ?_
          refine ev_aload_n rfl rfl rfl ?_
          refine ev_dup rfl rfl rfl ?_
          refine ev_getI rfl rfl fl_X10_131 rfl rfl rfl ?_
          try simp (disch := omega) only [k_mkeep, ev_rd1, ev_rd2, ev_rd3, k_mk_ne]
          refine ev_iconst (v := 1) rfl rfl (by decide) ?_
          refine ev_iadd rfl rfl ?_
          refine ev_putI rfl rfl fl_X10_131 rfl rfl rfl rfl rfl ?_
          refine ev_iload_n rfl rfl rfl ?_
          exact ev_iret rfl rfl rfl (⟨rfl, rfl⟩)
        · refine ev_iconst (v := 0) rfl rfl (by decide) ?_
          refine ev_goto rfl rfl ?_
          refine ev_putI rfl rfl fl_X10_13 rfl rfl rfl rfl rfl ?_
          refine ev_aload_n rfl rfl rfl ?_
          refine ev_aload_n rfl rfl rfl ?_
          refine ev_getI rfl rfl fl_X10_19 rfl rfl rfl ?_
          try simp (disch := omega) only [k_mkeep, ev_rd1, ev_rd2, ev_rd3, k_mk_ne]
          refine ev_putI rfl rfl fl_X10_7 rfl rfl rfl rfl rfl ?_
          refine ev_aload_n rfl rfl rfl ?_
          refine ev_dup rfl rfl rfl ?_
          refine ev_getI rfl rfl fl_X10_131 rfl rfl rfl ?_
          try simp (disch := omega) only [k_mkeep, ev_rd1, ev_rd2, ev_rd3, k_mk_ne]
          refine ev_iconst (v := 1) rfl rfl (by decide) ?_
          refine ev_iadd rfl rfl ?_
          refine ev_putI rfl rfl fl_X10_131 rfl rfl rfl rfl rfl ?_
          refine ev_iload_n rfl rfl rfl ?_
          exact ev_iret rfl rfl rfl (⟨rfl, rfl⟩)
    · refine ev_iconst (v := 0) rfl rfl (by decide) ?_
      refine ev_goto rfl rfl ?_
      refine ev_putI rfl rfl fl_X10_7 rfl rfl rfl rfl rfl ?_
      refine ev_aload_n rfl rfl rfl ?_
      refine ev_getI rfl rfl fl_X10_7 rfl rfl rfl ?_
      try simp (disch := omega) only [k_mkeep, ev_rd1, ev_rd2, ev_rd3, k_mk_ne]
      refine ev_aload_n rfl rfl rfl ?_
      refine ev_getI rfl rfl fl_X10_19 rfl rfl rfl ?_
      try simp (disch := omega) only [k_mkeep, ev_rd1, ev_rd2, ev_rd3, k_mk_ne]
      refine ev_icmp_le rfl rfl (fun c_92 => ?_) (fun c_92 => ?_)
      · refine ev_iload_n rfl rfl rfl ?_
        exact ev_iret rfl rfl rfl (⟨rfl, rfl⟩)
      · refine ev_aload_n rfl rfl rfl ?_
        refine ev_aload_n rfl rfl rfl ?_
        refine ev_getI rfl rfl fl_X10_13 rfl rfl rfl ?_
        try simp (disch := omega) only [k_mkeep, ev_rd1, ev_rd2, ev_rd3, k_mk_ne]
        refine ev_aload_n rfl rfl rfl ?_
        refine ev_getI rfl rfl fl_X10_7 rfl rfl rfl ?_
        try simp (disch := omega) only [k_mkeep, ev_rd1, ev_rd2, ev_rd3, k_mk_ne]
        refine ev_aload_n rfl rfl rfl ?_
        refine ev_getI rfl rfl fl_X10_19 rfl rfl rfl ?_
        try simp (disch := omega) only [k_mkeep, ev_rd1, ev_rd2, ev_rd3, k_mk_ne]
        refine ev_isub rfl rfl ?_
        refine ev_icmp_ge rfl rfl (fun c_109 => ?_) (fun c_109 => ?_)
        · refine ev_aload_n rfl rfl rfl ?_
          refine ev_getI rfl rfl fl_X10_13 rfl rfl rfl ?_
          try simp (disch := omega) only [k_mkeep, ev_rd1, ev_rd2, ev_rd3, k_mk_ne]
          refine ev_aload_n rfl rfl rfl ?_
          refine ev_getI rfl rfl fl_X10_7 rfl rfl rfl ?_
          try simp (disch := omega) only [k_mkeep, ev_rd1, ev_rd2, ev_rd3, k_mk_ne]
          refine ev_aload_n rfl rfl rfl ?_
          refine ev_getI rfl rfl fl_X10_19 rfl rfl rfl ?_
          try simp (disch := omega) only [k_mkeep, ev_rd1, ev_rd2, ev_rd3, k_mk_ne]
          refine ev_isub rfl rfl ?_
          refine ev_isub rfl rfl ?_
          refine ev_putI rfl rfl fl_X10_13 rfl rfl rfl rfl rfl ?_
          refine ev_aload_n rfl rfl rfl ?_
          refine ev_aload_n rfl rfl rfl ?_
          refine ev_getI rfl rfl fl_X10_19 rfl rfl rfl ?_
          try simp (disch := omega) only [k_mkeep, ev_rd1, ev_rd2, ev_rd3, k_mk_ne]
          refine ev_putI rfl rfl fl_X10_7 rfl rfl rfl rfl rfl ?_
          refine ev_aload_n rfl rfl rfl ?_
          refine ev_dup rfl rfl rfl ?_
          refine ev_getI rfl rfl fl_X10_131 rfl rfl rfl ?_
          try simp (disch := omega) only [k_mkeep, ev_rd1, ev_rd2, ev_rd3, k_mk_ne]
          refine ev_iconst (v := 1) rfl rfl (by decide) ?_
          refine ev_iadd rfl rfl ?_
          refine ev_putI rfl rfl fl_X10_131 rfl rfl rfl rfl rfl ?_
          refine ev_iload_n rfl rfl rfl ?_
          exact ev_iret rfl rfl rfl (⟨rfl, rfl⟩)
        · refine ev_iconst (v := 0) rfl rfl (by decide) ?_
          refine ev_goto rfl rfl ?_
          refine ev_putI rfl rfl fl_X10_13 rfl rfl rfl rfl rfl ?_
          refine ev_aload_n rfl rfl rfl ?_
          refine ev_aload_n rfl rfl rfl ?_
          refine ev_getI rfl rfl fl_X10_19 rfl rfl rfl ?_
          try simp (disch := omega) only [k_mkeep, ev_rd1, ev_rd2, ev_rd3, k_mk_ne]
          refine ev_putI rfl rfl fl_X10_7 rfl rfl rfl rfl rfl ?_
          refine ev_aload_n rfl rfl rfl ?_
          refine ev_dup rfl rfl rfl ?_
          refine ev_getI rfl rfl fl_X10_131 rfl rfl rfl ?_
          try simp (disch := omega) only [k_mkeep, ev_rd1, ev_rd2, ev_rd3, k_mk_ne]
          refine ev_iconst (v := 1) rfl rfl (by decide) ?_
          refine ev_iadd rfl rfl ?_
          refine ev_putI rfl rfl fl_X10_131 rfl rfl rfl rfl rfl ?_
          refine ev_iload_n rfl rfl rfl ?_
          exact ev_iret rfl rfl rfl (⟨rfl, rfl⟩)

set_option maxRecDepth 100000 in
set_option maxHeartbeats 4000000 in
theorem m_whistle (L : Nat) (b : Bool) (h : Hp) (hw : h 63 5 = 0) (n d s q : Int32) (hq : q = 0 ∨ q = 1) : EvX mi_X10_whistle [.ref 63, .int n, .int d, .int s, .int q] (G0 L b) h (if z_wi n 0 3600 = 0 then -1 else if z_wi d 1 9 = 0 then -1 else if z_wi s 0 20 = 0 then -1 else 0) := by
  refine EvM.of2 (lo := [some (.ref 63), some (.int n), some (.int d), some (.int s), some (.int q)]) pf_X10_whistle ok_X10_whistle rfl rfl ?_
  refine ev_iload_n rfl rfl rfl ?_
  refine ev_i2l rfl rfl ?_
  refine ev_lconst (v := 0) rfl rfl rfl ?_
  refine ev_ldc2 rfl rfl kc_X10_165 ?_
  refine ev_S3D rfl rfl lk_X10_124 st_X10_in rfl rfl (c_inw _ _ _ (0) (3600) (by decide) (by decide)) ?_
  refine ev_if_eq rfl rfl (fun c_9 => ?_) (fun c_9 => ?_)
  · refine ev_iconst (v := (-1)) rfl rfl (by decide) ?_
    exact ev_iret rfl rfl rfl (⟨congrArg (fun z => some (Value.int z)) (by simp only [if_pos c_9]), rfl⟩)
  · refine ev_iload_n rfl rfl rfl ?_
    refine ev_i2l rfl rfl ?_
    refine ev_lconst (v := 1) rfl rfl rfl ?_
    refine ev_ldc2 rfl rfl kc_X10_134 ?_
    refine ev_S3D rfl rfl lk_X10_124 st_X10_in rfl rfl (c_inw _ _ _ (1) (9) (by decide) (by decide)) ?_
    refine ev_if_eq rfl rfl (fun c_21 => ?_) (fun c_21 => ?_)
    · refine ev_iconst (v := (-1)) rfl rfl (by decide) ?_
      exact ev_iret rfl rfl rfl (⟨congrArg (fun z => some (Value.int z)) (by simp only [if_neg c_9, if_pos c_21]), rfl⟩)
    · refine ev_iload_n rfl rfl rfl ?_
      refine ev_i2l rfl rfl ?_
      refine ev_lconst (v := 0) rfl rfl rfl ?_
      refine ev_ldc2 rfl rfl kc_X10_167 ?_
      refine ev_S3D rfl rfl lk_X10_124 st_X10_in rfl rfl (c_inw _ _ _ (0) (20) (by decide) (by decide)) ?_
      refine ev_if_ne rfl rfl (fun c_33 => ?_) (fun c_33 => ?_)
      · refine ev_aload_n rfl rfl rfl ?_
        refine ev_getI rfl rfl fl_X10_121 rfl rfl rfl ?_
        try simp (disch := omega) only [k_mkeep, ev_rd1, ev_rd2, ev_rd3, k_mk_ne]
        refine ev_bipush (v := 12) rfl rfl (by decide) ?_
        refine ev_icmp_ne rfl rfl (fun c_44 => ?_) (fun z_ => absurd z_ (by rw [hw]; decide))
        refine ev_aload_n rfl rfl rfl ?_
        refine ev_getR rfl rfl fl_X10_22 rfl rfl rfl rfl ?_
        refine ev_aload_n rfl rfl rfl ?_
        refine ev_getI rfl rfl fl_X10_121 rfl rfl rfl ?_
        try simp (disch := omega) only [k_mkeep, ev_rd1, ev_rd2, ev_rd3, k_mk_ne]
        refine ev_iload_n rfl rfl rfl ?_
        refine ev_iast rfl rfl rfl rfl (by rw [hw]; unfold vp_in; decide) rfl ?_
        refine ev_aload_n rfl rfl rfl ?_
        refine ev_getR rfl rfl fl_X10_26 rfl rfl rfl rfl ?_
        refine ev_aload_n rfl rfl rfl ?_
        refine ev_getI rfl rfl fl_X10_121 rfl rfl rfl ?_
        try simp (disch := omega) only [k_mkeep, ev_rd1, ev_rd2, ev_rd3, k_mk_ne]
        refine ev_iload_n rfl rfl rfl ?_
        refine ev_iast rfl rfl rfl rfl (by rw [hw]; unfold vp_in; decide) rfl ?_
        refine ev_aload_n rfl rfl rfl ?_
        refine ev_getR rfl rfl fl_X10_29 rfl rfl rfl rfl ?_
        refine ev_aload_n rfl rfl rfl ?_
        refine ev_getI rfl rfl fl_X10_121 rfl rfl rfl ?_
        try simp (disch := omega) only [k_mkeep, ev_rd1, ev_rd2, ev_rd3, k_mk_ne]
        refine ev_iload_n rfl rfl rfl ?_
        refine ev_iast rfl rfl rfl rfl (by rw [hw]; unfold vp_in; decide) rfl ?_
        refine ev_aload_n rfl rfl rfl ?_
        refine ev_getR rfl rfl fl_X10_32 rfl rfl rfl rfl ?_
        refine ev_aload_n rfl rfl rfl ?_
        refine ev_getI rfl rfl fl_X10_121 rfl rfl rfl ?_
        try simp (disch := omega) only [k_mkeep, ev_rd1, ev_rd2, ev_rd3, k_mk_ne]
        refine ev_iload rfl rfl rfl ?_
        refine ev_zast rfl rfl rfl rfl (by rw [hw]; unfold vp_in; decide) rfl hq ?_
        refine ev_aload_n rfl rfl rfl ?_
        refine ev_getR rfl rfl fl_X10_36 rfl rfl rfl rfl ?_
        refine ev_aload_n rfl rfl rfl ?_
        refine ev_getI rfl rfl fl_X10_121 rfl rfl rfl ?_
        try simp (disch := omega) only [k_mkeep, ev_rd1, ev_rd2, ev_rd3, k_mk_ne]
        refine ev_iconst (v := 0) rfl rfl (by decide) ?_
        refine ev_iast rfl rfl rfl rfl (by rw [hw]; unfold vp_in; decide) rfl ?_
        refine ev_aload_n rfl rfl rfl ?_
        refine ev_getR rfl rfl fl_X10_39 rfl rfl rfl rfl ?_
        refine ev_aload_n rfl rfl rfl ?_
        refine ev_getI rfl rfl fl_X10_121 rfl rfl rfl ?_
        try simp (disch := omega) only [k_mkeep, ev_rd1, ev_rd2, ev_rd3, k_mk_ne]
        refine ev_iconst (v := 0) rfl rfl (by decide) ?_
        refine ev_iast rfl rfl rfl rfl (by rw [hw]; unfold vp_in; decide) rfl ?_
        refine ev_aload_n rfl rfl rfl ?_
        refine ev_getR rfl rfl fl_X10_42 rfl rfl rfl rfl ?_
        refine ev_aload_n rfl rfl rfl ?_
        refine ev_getI rfl rfl fl_X10_121 rfl rfl rfl ?_
        try simp (disch := omega) only [k_mkeep, ev_rd1, ev_rd2, ev_rd3, k_mk_ne]
        refine ev_iconst (v := 0) rfl rfl (by decide) ?_
        refine ev_zast rfl rfl rfl rfl (by rw [hw]; unfold vp_in; decide) rfl (Or.inl rfl) ?_
        refine ev_aload_n rfl rfl rfl ?_
        refine ev_dup rfl rfl rfl ?_
        refine ev_getI rfl rfl fl_X10_121 rfl rfl rfl ?_
        try simp (disch := omega) only [k_mkeep, ev_rd1, ev_rd2, ev_rd3, k_mk_ne]
        refine ev_iconst (v := 1) rfl rfl (by decide) ?_
        refine ev_iadd rfl rfl ?_
        refine ev_putI rfl rfl fl_X10_121 rfl rfl rfl rfl rfl ?_
        refine ev_aload_n rfl rfl rfl ?_
        refine ev_getI rfl rfl fl_X10_121 rfl rfl rfl ?_
        try simp (disch := omega) only [k_mkeep, ev_rd1, ev_rd2, ev_rd3, k_mk_ne]
        refine ev_iconst (v := 1) rfl rfl (by decide) ?_
        refine ev_isub rfl rfl ?_
        exact ev_iret rfl rfl rfl (⟨congrArg (fun z => some (Value.int z)) (by simp only [if_neg c_9, if_neg c_21, if_neg c_33, if_neg c_44, hw]; try decide), rfl⟩)
      · refine ev_iconst (v := (-1)) rfl rfl (by decide) ?_
        exact ev_iret rfl rfl rfl (⟨congrArg (fun z => some (Value.int z)) (by simp only [if_neg c_9, if_neg c_21, if_pos c_33]), rfl⟩)

set_option maxRecDepth 100000 in
set_option maxHeartbeats 4000000 in
theorem m_told (L : Nat) (b : Bool) (h : Hp) (hw : h 63 5 = 0) (w q : Int32) : EvX mi_X10_told [.ref 63, .int w, .int q] (G0 L b) h (-10000) := by
  refine EvM.of2 (lo := [some (.ref 63), some (.int w), some (.int q)]) pf_X10_told ok_X10_told rfl rfl ?_
  refine ev_aload_n rfl rfl rfl ?_
  refine ev_iload_n rfl rfl rfl ?_
  refine ev_V1D rfl rfl lk_X10_169 vt_X10_isWhistle rfl rfl rfl rfl rfl (m_isWhistle _ _ _ hw _) ?_
  refine ev_if_eq rfl rfl (fun c_5 => ?_) (fun z_ => absurd (by decide) z_)
  refine ev_sipush (v := (-10000)) rfl rfl (by decide) ?_
  exact ev_iret rfl rfl rfl (⟨rfl, rfl⟩)

set_option maxRecDepth 100000 in
set_option maxHeartbeats 4000000 in
theorem m_stem (L : Nat) (b : Bool) (h : Hp) (hw : h 63 5 = 0) (w q : Int32) : EvX mi_X10_stem [.ref 63, .int w, .int q] (G0 L b) h (-10000) := by
  refine EvM.of2 (lo := [some (.ref 63), some (.int w), some (.int q), none]) pf_X10_stem ok_X10_stem rfl rfl ?_
  refine ev_aload_n rfl rfl rfl ?_
  refine ev_iload_n rfl rfl rfl ?_
  refine ev_V1D rfl rfl lk_X10_169 vt_X10_isWhistle rfl rfl rfl rfl rfl (m_isWhistle _ _ _ hw _) ?_
  refine ev_if_eq rfl rfl (fun c_5 => ?_) (fun z_ => absurd (by decide) z_)
  refine ev_sipush (v := (-10000)) rfl rfl (by decide) ?_
  exact ev_iret rfl rfl rfl (⟨rfl, rfl⟩)

set_option maxRecDepth 100000 in
set_option maxHeartbeats 4000000 in
theorem m_crack (L : Nat) (b : Bool) (h : Hp) (hw : h 63 5 = 0) (w q : Int32) : EvX mi_X10_crack [.ref 63, .int w, .int q] (G0 L b) h (-10000) := by
  refine EvM.of2 (lo := [some (.ref 63), some (.int w), some (.int q), none]) pf_X10_crack ok_X10_crack rfl rfl ?_
  refine ev_aload_n rfl rfl rfl ?_
  refine ev_iload_n rfl rfl rfl ?_
  refine ev_V1D rfl rfl lk_X10_169 vt_X10_isWhistle rfl rfl rfl rfl rfl (m_isWhistle _ _ _ hw _) ?_
  refine ev_if_eq rfl rfl (fun c_5 => ?_) (fun z_ => absurd (by decide) z_)
  refine ev_sipush (v := (-10000)) rfl rfl (by decide) ?_
  exact ev_iret rfl rfl rfl (⟨rfl, rfl⟩)

set_option maxRecDepth 100000 in
set_option maxHeartbeats 4000000 in
theorem m_leak (L : Nat) (b : Bool) (h : Hp) (hw : h 63 5 = 0) (w q : Int32) : EvX mi_X10_leak [.ref 63, .int w, .int q] (G0 L b) h (-1) := by
  refine EvM.of2 (lo := [some (.ref 63), some (.int w), some (.int q), none]) pf_X10_leak ok_X10_leak rfl rfl ?_
  refine ev_aload_n rfl rfl rfl ?_
  refine ev_iload_n rfl rfl rfl ?_
  refine ev_V1D rfl rfl lk_X10_169 vt_X10_isWhistle rfl rfl rfl rfl rfl (m_isWhistle _ _ _ hw _) ?_
  refine ev_if_ne rfl rfl (fun z_ => absurd (by decide) z_) (fun c_5 => ?_)
  refine ev_iconst (v := (-1)) rfl rfl (by decide) ?_
  exact ev_iret rfl rfl rfl (⟨rfl, rfl⟩)

set_option maxRecDepth 100000 in
set_option maxHeartbeats 4000000 in
theorem m_pitch (L : Nat) (b : Bool) (h : Hp) (hw : h 63 5 = 0) (w q : Int32) : EvX mi_X10_pitch [.ref 63, .int w, .int q] (G0 L b) h (-10000) := by
  refine EvM.of2 (lo := [some (.ref 63), some (.int w), some (.int q)]) pf_X10_pitch ok_X10_pitch rfl rfl ?_
  refine ev_aload_n rfl rfl rfl ?_
  refine ev_iload_n rfl rfl rfl ?_
  refine ev_V1D rfl rfl lk_X10_169 vt_X10_isWhistle rfl rfl rfl rfl rfl (m_isWhistle _ _ _ hw _) ?_
  refine ev_if_eq rfl rfl (fun c_5 => ?_) (fun z_ => absurd (by decide) z_)
  refine ev_sipush (v := (-10000)) rfl rfl (by decide) ?_
  exact ev_iret rfl rfl rfl (⟨rfl, rfl⟩)

set_option maxRecDepth 100000 in
set_option maxHeartbeats 4000000 in
theorem m_holds (L : Nat) (b : Bool) (h : Hp) (hw : h 63 5 = 0) (w q : Int32) : EvX mi_X10_holds [.ref 63, .int w, .int q] (G0 L b) h (-1) := by
  refine EvM.of2 (lo := [some (.ref 63), some (.int w), some (.int q), none]) pf_X10_holds ok_X10_holds rfl rfl ?_
  refine ev_aload_n rfl rfl rfl ?_
  refine ev_iload_n rfl rfl rfl ?_
  refine ev_V1D rfl rfl lk_X10_169 vt_X10_isWhistle rfl rfl rfl rfl rfl (m_isWhistle _ _ _ hw _) ?_
  refine ev_if_eq rfl rfl (fun c_5 => ?_) (fun z_ => absurd (by decide) z_)
  refine ev_iconst (v := (-1)) rfl rfl (by decide) ?_
  exact ev_iret rfl rfl rfl (⟨rfl, rfl⟩)

set_option maxRecDepth 100000 in
set_option maxHeartbeats 4000000 in
theorem m_tuneAll (L : Nat) (b : Bool) (h : Hp) (hx : h 63 13 = 0) (hw : h 63 5 = 0) (p : Int32) : EvX mi_X10_tuneAll [.ref 63, .int p] (G0 L b) h (if z_wi p 0 200 = 0 then -1 else 0) := by
  refine EvM.of2 (lo := [some (.ref 63), some (.int p), none, none, none]) pf_X10_tuneAll ok_X10_tuneAll rfl rfl ?_
  refine ev_iload_n rfl rfl rfl ?_
  refine ev_i2l rfl rfl ?_
  refine ev_lconst (v := 0) rfl rfl rfl ?_
  refine ev_ldc2 rfl rfl kc_X10_143 ?_
  refine ev_S3D rfl rfl lk_X10_124 st_X10_in rfl rfl (c_inw _ _ _ (0) (200) (by decide) (by decide)) ?_
  refine ev_if_ne rfl rfl (fun c_9 => ?_) (fun c_9 => ?_)
  · refine ev_aload_n rfl rfl rfl ?_
    refine ev_V0U rfl rfl lk_X10_136 vt_X10_keeps rfl rfl rfl rfl rfl (c_mkeeps _ _ _ 0 (by decide) hx) ?_
    refine ev_iconst (v := 0) rfl rfl (by decide) ?_
    refine ev_istore_n rfl rfl rfl rfl ?_
    dsimp only [List.set]
    refine ev_iconst (v := 0) rfl rfl (by decide) ?_
    refine ev_istore_n rfl rfl rfl rfl ?_
    dsimp only [List.set]
    refine ev_iload_n rfl rfl rfl ?_
    refine ev_aload_n rfl rfl rfl ?_
    refine ev_getI rfl rfl fl_X10_121 rfl rfl rfl ?_
    try simp (disch := omega) only [k_mkeep, ev_rd1, ev_rd2, ev_rd3, k_mk_ne]
    refine ev_icmp_ge rfl rfl (fun c_27 => ?_) (fun z_ => absurd (by rw [hw]; exact Int32.le_refl _) z_)
    refine ev_iload_n rfl rfl rfl ?_
    exact ev_iret rfl rfl rfl (⟨congrArg (fun z => some (Value.int z)) (by simp only [if_neg c_9, if_pos c_27]), rfl⟩)
  · refine ev_iconst (v := (-1)) rfl rfl (by decide) ?_
    exact ev_iret rfl rfl rfl (⟨congrArg (fun z => some (Value.int z)) (by simp only [if_pos c_9]), rfl⟩)

set_option maxRecDepth 100000 in
set_option maxHeartbeats 4000000 in
theorem m_agree (L : Nat) (b : Bool) (h : Hp) (hw : h 63 5 = 0) (q : Int32) : EvX mi_X10_agree [.ref 63, .int q] (G0 L b) h (if z_wi q 0 2 = 0 then -1 else -4) := by
  refine EvM.of2 (lo := [some (.ref 63), some (.int q), none, none, none, none]) pf_X10_agree ok_X10_agree rfl rfl ?_
  refine ev_iload_n rfl rfl rfl ?_
  refine ev_i2l rfl rfl ?_
  refine ev_lconst (v := 0) rfl rfl rfl ?_
  refine ev_ldc2 rfl rfl kc_X10_183 ?_
  refine ev_S3D rfl rfl lk_X10_124 st_X10_in rfl rfl (c_inw _ _ _ (0) (2) (by decide) (by decide)) ?_
  refine ev_if_ne rfl rfl (fun c_9 => ?_) (fun c_9 => ?_)
  · refine ev_aload_n rfl rfl rfl ?_
    refine ev_getI rfl rfl fl_X10_121 rfl rfl rfl ?_
    try simp (disch := omega) only [k_mkeep, ev_rd1, ev_rd2, ev_rd3, k_mk_ne]
    refine ev_if_ne rfl rfl (fun z_ => absurd hw z_) (fun c_18 => ?_)
    refine ev_bipush (v := (-4)) rfl rfl (by decide) ?_
    exact ev_iret rfl rfl rfl (⟨congrArg (fun z => some (Value.int z)) (by simp only [if_neg c_9, if_pos c_18]), rfl⟩)
  · refine ev_iconst (v := (-1)) rfl rfl (by decide) ?_
    exact ev_iret rfl rfl rfl (⟨congrArg (fun z => some (Value.int z)) (by simp only [if_pos c_9]), rfl⟩)

set_option maxRecDepth 100000 in
set_option maxHeartbeats 4000000 in
theorem m_end (L : Nat) (b : Bool) (h : Hp) (v : Int32) : EvX mi_X10_end [.ref 63, .int v] (G0 L b) h (if z_wi v 0 (h 63 16) = 0 then -1 else h 63 16) := by
  refine EvM.of2 (lo := [some (.ref 63), some (.int v), none]) pf_X10_end ok_X10_end rfl rfl ?_
  refine ev_iload_n rfl rfl rfl ?_
  refine ev_i2l rfl rfl ?_
  refine ev_lconst (v := 0) rfl rfl rfl ?_
  refine ev_aload_n rfl rfl rfl ?_
  refine ev_getI rfl rfl fl_X10_186 rfl rfl rfl ?_
  refine ev_i2l rfl rfl ?_
  refine ev_S3D rfl rfl lk_X10_124 st_X10_in rfl rfl (c_inw _ _ _ (0) (h 63 16) (by decide) rfl) ?_
  refine ev_if_ne rfl rfl (fun c_11 => ?_) (fun c_11 => ?_)
  · refine ev_aload_n rfl rfl rfl ?_
    refine ev_getI rfl rfl fl_X10_186 rfl rfl rfl ?_
    try simp (disch := omega) only [k_mkeep, ev_rd1, ev_rd2, ev_rd3, k_mk_ne]
    refine ev_istore_n rfl rfl rfl rfl ?_
    dsimp only [List.set]
    refine ev_aload_n rfl rfl rfl ?_
    refine ev_iload_n rfl rfl rfl ?_
    refine ev_putI rfl rfl fl_X10_186 rfl rfl rfl rfl rfl ?_
    refine ev_iload_n rfl rfl rfl ?_
    exact ev_iret rfl rfl rfl (⟨congrArg (fun z => some (Value.int z)) (by simp only [if_neg c_11]), rfl⟩)
  · refine ev_iconst (v := (-1)) rfl rfl (by decide) ?_
    exact ev_iret rfl rfl rfl (⟨congrArg (fun z => some (Value.int z)) (by simp only [if_pos c_11]), rfl⟩)

set_option maxRecDepth 100000 in
set_option maxHeartbeats 4000000 in
theorem m_fault (L : Nat) (b : Bool) (h : Hp)  : EvX mi_X10_fault [.ref 63] (G0 L b) h (h 63 21) := by
  refine EvM.of2 (lo := [some (.ref 63)]) pf_X10_fault ok_X10_fault rfl rfl ?_
  refine ev_aload_n rfl rfl rfl ?_
  refine ev_getI rfl rfl fl_X10_191 rfl rfl rfl ?_
  exact ev_iret rfl rfl rfl (⟨rfl, rfl⟩)

set_option maxRecDepth 100000 in
set_option maxHeartbeats 4000000 in
theorem m_tuneOf (L : Nat) (b : Bool) (h : Hp) (ht : h 63 23 = 0) (t q : Int32) : EvX mi_X10_tuneOf [.ref 63, .int t, .int q] (G0 L b) h (-1) := by
  refine EvM.of2 (lo := [some (.ref 63), some (.int t), some (.int q), none, none, none, none]) pf_X10_tuneOf ok_X10_tuneOf rfl rfl ?_
  refine ev_aload_n rfl rfl rfl ?_
  refine ev_iload_n rfl rfl rfl ?_
  refine ev_V1D rfl rfl lk_X10_266 vt_X10_isTune rfl rfl rfl rfl rfl (m_isTune _ _ _ ht _) ?_
  refine ev_if_eq rfl rfl (fun c_5 => ?_) (fun z_ => absurd (by decide) z_)
  refine ev_iconst (v := (-1)) rfl rfl (by decide) ?_
  exact ev_iret rfl rfl rfl (⟨rfl, rfl⟩)

set_option maxRecDepth 100000 in
set_option maxHeartbeats 4000000 in
theorem m_play (L : Nat) (b : Bool) (h : Hp) (ht : h 63 23 = 0) (t q : Int32) : EvX mi_X10_play [.ref 63, .int t, .int q] (G0 L b) h (-1) := by
  refine EvM.of2 (lo := [some (.ref 63), some (.int t), some (.int q)]) pf_X10_play ok_X10_play rfl rfl ?_
  refine ev_aload_n rfl rfl rfl ?_
  refine ev_iload_n rfl rfl rfl ?_
  refine ev_V1D rfl rfl lk_X10_266 vt_X10_isTune rfl rfl rfl rfl rfl (m_isTune _ _ _ ht _) ?_
  refine ev_if_eq rfl rfl (fun c_5 => ?_) (fun z_ => absurd (by decide) z_)
  refine ev_iconst (v := (-1)) rfl rfl (by decide) ?_
  exact ev_iret rfl rfl rfl (⟨rfl, rfl⟩)

set_option maxRecDepth 100000 in
set_option maxHeartbeats 4000000 in
theorem m_would (L : Nat) (b : Bool) (h : Hp) (ht : h 63 23 = 0) (t q : Int32) : EvX mi_X10_would [.ref 63, .int t, .int q] (G0 L b) h (-1) := by
  refine EvM.of2 (lo := [some (.ref 63), some (.int t), some (.int q)]) pf_X10_would ok_X10_would rfl rfl ?_
  refine ev_aload_n rfl rfl rfl ?_
  refine ev_iload_n rfl rfl rfl ?_
  refine ev_V1D rfl rfl lk_X10_266 vt_X10_isTune rfl rfl rfl rfl rfl (m_isTune _ _ _ ht _) ?_
  refine ev_if_eq rfl rfl (fun c_5 => ?_) (fun z_ => absurd (by decide) z_)
  refine ev_iconst (v := (-1)) rfl rfl (by decide) ?_
  exact ev_iret rfl rfl rfl (⟨rfl, rfl⟩)

set_option maxRecDepth 100000 in
set_option maxHeartbeats 4000000 in
theorem m_key (L : Nat) (b : Bool) (h : Hp) (ht : h 63 23 = 0) (t q : Int32) : EvX mi_X10_key [.ref 63, .int t, .int q] (G0 L b) h (-100) := by
  refine EvM.of2 (lo := [some (.ref 63), some (.int t), some (.int q), none, none, none, none, none, none]) pf_X10_key ok_X10_key rfl rfl ?_
  refine ev_aload_n rfl rfl rfl ?_
  refine ev_iload_n rfl rfl rfl ?_
  refine ev_V1D rfl rfl lk_X10_266 vt_X10_isTune rfl rfl rfl rfl rfl (m_isTune _ _ _ ht _) ?_
  refine ev_if_eq rfl rfl (fun c_5 => ?_) (fun z_ => absurd (by decide) z_)
  refine ev_bipush (v := (-100)) rfl rfl (by decide) ?_
  exact ev_iret rfl rfl rfl (⟨rfl, rfl⟩)

set_option maxRecDepth 100000 in
set_option maxHeartbeats 4000000 in
theorem m_set (L : Nat) (b : Bool) (h : Hp) (ht : h 63 23 = 0) (t k d r q : Int32) : EvX mi_X10_set [.ref 63, .int t, .int k, .int d, .int r, .int q] (G0 L b) h (-1) := by
  refine EvM.of2 (lo := [some (.ref 63), some (.int t), some (.int k), some (.int d), some (.int r), some (.int q), none, none]) pf_X10_set ok_X10_set rfl rfl ?_
  refine ev_aload_n rfl rfl rfl ?_
  refine ev_iload_n rfl rfl rfl ?_
  refine ev_V1D rfl rfl lk_X10_266 vt_X10_isTune rfl rfl rfl rfl rfl (m_isTune _ _ _ ht _) ?_
  refine ev_if_eq rfl rfl (fun c_5 => ?_) (fun z_ => absurd (by decide) z_)
  refine ev_iconst (v := (-1)) rfl rfl (by decide) ?_
  exact ev_iret rfl rfl rfl (⟨rfl, rfl⟩)

set_option maxRecDepth 100000 in
set_option maxHeartbeats 4000000 in
theorem m_blame (L : Nat) (b : Bool) (h : Hp) (ht : h 63 23 = 0) (t k p s l f q : Int32) : EvX mi_X10_blame [.ref 63, .int t, .int k, .int p, .int s, .int l, .int f, .int q] (G0 L b) h (-1000) := by
  refine EvM.of2 (lo := [some (.ref 63), some (.int t), some (.int k), some (.int p), some (.int s), some (.int l), some (.int f), some (.int q), none, none, none, none, none, none, none]) pf_X10_blame ok_X10_blame rfl rfl ?_
  refine ev_aload_n rfl rfl rfl ?_
  refine ev_iload_n rfl rfl rfl ?_
  refine ev_V1D rfl rfl lk_X10_266 vt_X10_isTune rfl rfl rfl rfl rfl (m_isTune _ _ _ ht _) ?_
  refine ev_if_eq rfl rfl (fun c_5 => ?_) (fun z_ => absurd (by decide) z_)
  refine ev_sipush (v := (-1000)) rfl rfl (by decide) ?_
  exact ev_iret rfl rfl rfl (⟨rfl, rfl⟩)

set_option maxRecDepth 100000 in
set_option maxHeartbeats 4000000 in
theorem m_speed (L : Nat) (b : Bool) (h : Hp) (v : Int32) : EvX mi_X10_speed [.ref 63, .int v] (G0 L b) h (if z_wi v 1 99 = 0 then -1 else h 63 51) := by
  refine EvM.of2 (lo := [some (.ref 63), some (.int v), none]) pf_X10_speed ok_X10_speed rfl rfl ?_
  refine ev_iload_n rfl rfl rfl ?_
  refine ev_i2l rfl rfl ?_
  refine ev_lconst (v := 1) rfl rfl rfl ?_
  refine ev_ldc2 rfl rfl kc_X10_344 ?_
  refine ev_S3D rfl rfl lk_X10_124 st_X10_in rfl rfl (c_inw _ _ _ (1) (99) (by decide) (by decide)) ?_
  refine ev_if_ne rfl rfl (fun c_9 => ?_) (fun c_9 => ?_)
  · refine ev_aload_n rfl rfl rfl ?_
    refine ev_getI rfl rfl fl_X10_109 rfl rfl rfl ?_
    try simp (disch := omega) only [k_mkeep, ev_rd1, ev_rd2, ev_rd3, k_mk_ne]
    refine ev_istore_n rfl rfl rfl rfl ?_
    dsimp only [List.set]
    refine ev_aload_n rfl rfl rfl ?_
    refine ev_iload_n rfl rfl rfl ?_
    refine ev_putI rfl rfl fl_X10_109 rfl rfl rfl rfl rfl ?_
    refine ev_iload_n rfl rfl rfl ?_
    exact ev_iret rfl rfl rfl (⟨congrArg (fun z => some (Value.int z)) (by simp only [if_neg c_9]), rfl⟩)
  · refine ev_iconst (v := (-1)) rfl rfl (by decide) ?_
    exact ev_iret rfl rfl rfl (⟨congrArg (fun z => some (Value.int z)) (by simp only [if_pos c_9]), rfl⟩)

set_option maxRecDepth 100000 in
set_option maxHeartbeats 4000000 in
theorem m_heard (L : Nat) (b : Bool) (h : Hp) (hb : h 63 45 = 0) (q i p : Int32) : EvX mi_X10_heard [.ref 63, .int q, .int i, .int p] (G0 L b) h (-1) := by
  refine EvM.of2 (lo := [some (.ref 63), some (.int q), some (.int i), some (.int p)]) pf_X10_heard ok_X10_heard rfl rfl ?_
  refine ev_iload_n rfl rfl rfl ?_
  refine ev_i2l rfl rfl ?_
  refine ev_lconst (v := 0) rfl rfl rfl ?_
  refine ev_aload_n rfl rfl rfl ?_
  refine ev_getI rfl rfl fl_X10_346 rfl rfl rfl ?_
  refine ev_iconst (v := 1) rfl rfl (by decide) ?_
  refine ev_isub rfl rfl ?_
  refine ev_i2l rfl rfl ?_
  refine ev_S3D rfl rfl lk_X10_124 st_X10_in rfl rfl (c_inw _ _ _ (0) (h 63 45 - 1) (by decide) rfl) ?_
  rw [hb, z_wi_no]
  refine ev_if_eq rfl rfl (fun c_13 => ?_) (fun z_ => absurd (by decide) z_)
  refine ev_iconst (v := (-1)) rfl rfl (by decide) ?_
  exact ev_iret rfl rfl rfl (⟨rfl, rfl⟩)

set_option maxRecDepth 100000 in
set_option maxHeartbeats 4000000 in
theorem m_step (L : Nat) (b : Bool) (h : Hp) (hb : h 63 45 = 0) (q i p : Int32) : EvX mi_X10_step [.ref 63, .int q, .int i, .int p] (G0 L b) h (-1) := by
  refine EvM.of2 (lo := [some (.ref 63), some (.int q), some (.int i), some (.int p), none, none, none, none, none, none, none]) pf_X10_step ok_X10_step rfl rfl ?_
  refine ev_iload_n rfl rfl rfl ?_
  refine ev_i2l rfl rfl ?_
  refine ev_lconst (v := 0) rfl rfl rfl ?_
  refine ev_aload_n rfl rfl rfl ?_
  refine ev_getI rfl rfl fl_X10_346 rfl rfl rfl ?_
  refine ev_iconst (v := 1) rfl rfl (by decide) ?_
  refine ev_isub rfl rfl ?_
  refine ev_i2l rfl rfl ?_
  refine ev_S3D rfl rfl lk_X10_124 st_X10_in rfl rfl (c_inw _ _ _ (0) (h 63 45 - 1) (by decide) rfl) ?_
  rw [hb, z_wi_no]
  refine ev_if_eq rfl rfl (fun c_13 => ?_) (fun z_ => absurd (by decide) z_)
  refine ev_iconst (v := (-1)) rfl rfl (by decide) ?_
  exact ev_iret rfl rfl rfl (⟨rfl, rfl⟩)

set_option maxRecDepth 100000 in
set_option maxHeartbeats 4000000 in
theorem m_boat (L : Nat) (b : Bool) (h : Hp) (hb : h 63 45 = 0) (p l : Int32) : EvX mi_X10_boat [.ref 63, .int p, .int l] (G0 L b) h (if z_wi p 0 999 = 0 then -1 else if z_wi l 0 99 = 0 then -1 else 0) := by
  refine EvM.of2 (lo := [some (.ref 63), some (.int p), some (.int l)]) pf_X10_boat ok_X10_boat rfl rfl ?_
  refine ev_iload_n rfl rfl rfl ?_
  refine ev_i2l rfl rfl ?_
  refine ev_lconst (v := 0) rfl rfl rfl ?_
  refine ev_ldc2 rfl rfl kc_X10_342 ?_
  refine ev_S3D rfl rfl lk_X10_124 st_X10_in rfl rfl (c_inw _ _ _ (0) (999) (by decide) (by decide)) ?_
  refine ev_if_eq rfl rfl (fun c_9 => ?_) (fun c_9 => ?_)
  · refine ev_iconst (v := (-1)) rfl rfl (by decide) ?_
    exact ev_iret rfl rfl rfl (⟨congrArg (fun z => some (Value.int z)) (by simp only [if_pos c_9]), rfl⟩)
  · refine ev_iload_n rfl rfl rfl ?_
    refine ev_i2l rfl rfl ?_
    refine ev_lconst (v := 0) rfl rfl rfl ?_
    refine ev_ldc2 rfl rfl kc_X10_344 ?_
    refine ev_S3D rfl rfl lk_X10_124 st_X10_in rfl rfl (c_inw _ _ _ (0) (99) (by decide) (by decide)) ?_
    refine ev_if_ne rfl rfl (fun c_21 => ?_) (fun c_21 => ?_)
    · refine ev_aload_n rfl rfl rfl ?_
      refine ev_getI rfl rfl fl_X10_346 rfl rfl rfl ?_
      try simp (disch := omega) only [k_mkeep, ev_rd1, ev_rd2, ev_rd3, k_mk_ne]
      refine ev_iconst (v := 4) rfl rfl (by decide) ?_
      refine ev_icmp_ne rfl rfl (fun c_31 => ?_) (fun z_ => absurd z_ (by rw [hb]; decide))
      refine ev_aload_n rfl rfl rfl ?_
      refine ev_getR rfl rfl fl_X10_97 rfl rfl rfl rfl ?_
      refine ev_aload_n rfl rfl rfl ?_
      refine ev_getI rfl rfl fl_X10_346 rfl rfl rfl ?_
      try simp (disch := omega) only [k_mkeep, ev_rd1, ev_rd2, ev_rd3, k_mk_ne]
      refine ev_iload_n rfl rfl rfl ?_
      refine ev_iast rfl rfl rfl rfl (by rw [hb]; unfold vp_in; decide) rfl ?_
      refine ev_aload_n rfl rfl rfl ?_
      refine ev_getR rfl rfl fl_X10_100 rfl rfl rfl rfl ?_
      refine ev_aload_n rfl rfl rfl ?_
      refine ev_getI rfl rfl fl_X10_346 rfl rfl rfl ?_
      try simp (disch := omega) only [k_mkeep, ev_rd1, ev_rd2, ev_rd3, k_mk_ne]
      refine ev_iload_n rfl rfl rfl ?_
      refine ev_iast rfl rfl rfl rfl (by rw [hb]; unfold vp_in; decide) rfl ?_
      refine ev_aload_n rfl rfl rfl ?_
      refine ev_dup rfl rfl rfl ?_
      refine ev_getI rfl rfl fl_X10_346 rfl rfl rfl ?_
      try simp (disch := omega) only [k_mkeep, ev_rd1, ev_rd2, ev_rd3, k_mk_ne]
      refine ev_iconst (v := 1) rfl rfl (by decide) ?_
      refine ev_iadd rfl rfl ?_
      refine ev_putI rfl rfl fl_X10_346 rfl rfl rfl rfl rfl ?_
      refine ev_aload_n rfl rfl rfl ?_
      refine ev_getI rfl rfl fl_X10_346 rfl rfl rfl ?_
      try simp (disch := omega) only [k_mkeep, ev_rd1, ev_rd2, ev_rd3, k_mk_ne]
      refine ev_iconst (v := 1) rfl rfl (by decide) ?_
      refine ev_isub rfl rfl ?_
      exact ev_iret rfl rfl rfl (⟨congrArg (fun z => some (Value.int z)) (by simp only [if_neg c_9, if_neg c_21, if_neg c_31, hb]; try decide), rfl⟩)
    · refine ev_iconst (v := (-1)) rfl rfl (by decide) ?_
      exact ev_iret rfl rfl rfl (⟨congrArg (fun z => some (Value.int z)) (by simp only [if_neg c_9, if_pos c_21]), rfl⟩)

set_option maxRecDepth 100000 in
set_option maxHeartbeats 4000000 in
theorem m_bend (L : Nat) (b : Bool) (h : Hp) (hd : h 63 48 = 0) (p l : Int32) : EvX mi_X10_bend [.ref 63, .int p, .int l] (G0 L b) h (if z_wi p 0 999 = 0 then -1 else if z_wi l 1 99 = 0 then -1 else 1) := by
  refine EvM.of2 (lo := [some (.ref 63), some (.int p), some (.int l), none, none]) pf_X10_bend ok_X10_bend rfl rfl ?_
  refine ev_iload_n rfl rfl rfl ?_
  refine ev_i2l rfl rfl ?_
  refine ev_lconst (v := 0) rfl rfl rfl ?_
  refine ev_ldc2 rfl rfl kc_X10_342 ?_
  refine ev_S3D rfl rfl lk_X10_124 st_X10_in rfl rfl (c_inw _ _ _ (0) (999) (by decide) (by decide)) ?_
  refine ev_if_eq rfl rfl (fun c_9 => ?_) (fun c_9 => ?_)
  · refine ev_iconst (v := 0) rfl rfl (by decide) ?_
    refine ev_istore_n rfl rfl rfl rfl ?_
    dsimp only [List.set]
    refine ev_iconst (v := 0) rfl rfl (by decide) ?_
    refine ev_istore rfl rfl rfl rfl ?_
    dsimp only [List.set]
    refine ev_iload rfl rfl rfl ?_
    refine ev_aload_n rfl rfl rfl ?_
    refine ev_getI rfl rfl fl_X10_349 rfl rfl rfl ?_
    try simp (disch := omega) only [k_mkeep, ev_rd1, ev_rd2, ev_rd3, k_mk_ne]
    refine ev_icmp_ge rfl rfl (fun c_39 => ?_) (fun z_ => absurd (by rw [hd]; exact Int32.le_refl _) z_)
    refine ev_iload_n rfl rfl rfl ?_
    refine ev_if_ne rfl rfl (fun z_ => absurd (by decide) z_) (fun c_70 => ?_)
    refine ev_iconst (v := (-1)) rfl rfl (by decide) ?_
    exact ev_iret rfl rfl rfl (⟨congrArg (fun z => some (Value.int z)) (by simp only [if_pos c_9, if_pos c_39, if_pos c_70]), rfl⟩)
  · refine ev_iload_n rfl rfl rfl ?_
    refine ev_i2l rfl rfl ?_
    refine ev_lconst (v := 1) rfl rfl rfl ?_
    refine ev_ldc2 rfl rfl kc_X10_344 ?_
    refine ev_S3D rfl rfl lk_X10_124 st_X10_in rfl rfl (c_inw _ _ _ (1) (99) (by decide) (by decide)) ?_
    refine ev_if_eq rfl rfl (fun c_21 => ?_) (fun c_21 => ?_)
    · refine ev_iconst (v := 0) rfl rfl (by decide) ?_
      refine ev_istore_n rfl rfl rfl rfl ?_
      dsimp only [List.set]
      refine ev_iconst (v := 0) rfl rfl (by decide) ?_
      refine ev_istore rfl rfl rfl rfl ?_
      dsimp only [List.set]
      refine ev_iload rfl rfl rfl ?_
      refine ev_aload_n rfl rfl rfl ?_
      refine ev_getI rfl rfl fl_X10_349 rfl rfl rfl ?_
      try simp (disch := omega) only [k_mkeep, ev_rd1, ev_rd2, ev_rd3, k_mk_ne]
      refine ev_icmp_ge rfl rfl (fun c_39 => ?_) (fun z_ => absurd (by rw [hd]; exact Int32.le_refl _) z_)
      refine ev_iload_n rfl rfl rfl ?_
      refine ev_if_ne rfl rfl (fun z_ => absurd (by decide) z_) (fun c_70 => ?_)
      refine ev_iconst (v := (-1)) rfl rfl (by decide) ?_
      exact ev_iret rfl rfl rfl (⟨congrArg (fun z => some (Value.int z)) (by simp only [if_neg c_9, if_pos c_21, if_pos c_39, if_pos c_70]), rfl⟩)
    · refine ev_iconst (v := 1) rfl rfl (by decide) ?_
      refine ev_goto rfl rfl ?_
      refine ev_istore_n rfl rfl rfl rfl ?_
      dsimp only [List.set]
      refine ev_iconst (v := 0) rfl rfl (by decide) ?_
      refine ev_istore rfl rfl rfl rfl ?_
      dsimp only [List.set]
      refine ev_iload rfl rfl rfl ?_
      refine ev_aload_n rfl rfl rfl ?_
      refine ev_getI rfl rfl fl_X10_349 rfl rfl rfl ?_
      try simp (disch := omega) only [k_mkeep, ev_rd1, ev_rd2, ev_rd3, k_mk_ne]
      refine ev_icmp_ge rfl rfl (fun c_39 => ?_) (fun z_ => absurd (by rw [hd]; exact Int32.le_refl _) z_)
      refine ev_iload_n rfl rfl rfl ?_
      refine ev_if_ne rfl rfl (fun c_70 => ?_) (fun z_ => absurd z_ (by decide))
      refine ev_aload_n rfl rfl rfl ?_
      refine ev_getI rfl rfl fl_X10_349 rfl rfl rfl ?_
      try simp (disch := omega) only [k_mkeep, ev_rd1, ev_rd2, ev_rd3, k_mk_ne]
      refine ev_bipush (v := 6) rfl rfl (by decide) ?_
      refine ev_icmp_ne rfl rfl (fun c_81 => ?_) (fun z_ => absurd z_ (by rw [hd]; decide))
      refine ev_aload_n rfl rfl rfl ?_
      refine ev_getR rfl rfl fl_X10_103 rfl rfl rfl rfl ?_
      refine ev_aload_n rfl rfl rfl ?_
      refine ev_getI rfl rfl fl_X10_349 rfl rfl rfl ?_
      try simp (disch := omega) only [k_mkeep, ev_rd1, ev_rd2, ev_rd3, k_mk_ne]
      refine ev_iload_n rfl rfl rfl ?_
      refine ev_iast rfl rfl rfl rfl (by rw [hd]; unfold vp_in; decide) rfl ?_
      refine ev_aload_n rfl rfl rfl ?_
      refine ev_getR rfl rfl fl_X10_106 rfl rfl rfl rfl ?_
      refine ev_aload_n rfl rfl rfl ?_
      refine ev_getI rfl rfl fl_X10_349 rfl rfl rfl ?_
      try simp (disch := omega) only [k_mkeep, ev_rd1, ev_rd2, ev_rd3, k_mk_ne]
      refine ev_iload_n rfl rfl rfl ?_
      refine ev_iast rfl rfl rfl rfl (by rw [hd]; unfold vp_in; decide) rfl ?_
      refine ev_aload_n rfl rfl rfl ?_
      refine ev_dup rfl rfl rfl ?_
      refine ev_getI rfl rfl fl_X10_349 rfl rfl rfl ?_
      try simp (disch := omega) only [k_mkeep, ev_rd1, ev_rd2, ev_rd3, k_mk_ne]
      refine ev_iconst (v := 1) rfl rfl (by decide) ?_
      refine ev_iadd rfl rfl ?_
      refine ev_putI rfl rfl fl_X10_349 rfl rfl rfl rfl rfl ?_
      refine ev_aload_n rfl rfl rfl ?_
      refine ev_getI rfl rfl fl_X10_349 rfl rfl rfl ?_
      try simp (disch := omega) only [k_mkeep, ev_rd1, ev_rd2, ev_rd3, k_mk_ne]
      exact ev_iret rfl rfl rfl (⟨congrArg (fun z => some (Value.int z)) (by simp only [if_neg c_9, if_neg c_21, if_pos c_39, if_neg c_70, if_neg c_81, hd]; try decide), rfl⟩)

def r_mfar (x y : Int32) : Int32 := (if y ≤ x then x else y) - (if y ≤ x then y else x)

set_option maxRecDepth 100000 in
set_option maxHeartbeats 4000000 in
theorem m_farOf (L : Nat) (b : Bool) (h : Hp) (hd : h 63 48 = 0) (x y : Int32) : EvD mi_X10_farOf [.ref 63, .int x, .int y] (G0 L b) h (r_mfar x y) (h) := by
  refine EvD.of (lo := [some (.ref 63), some (.int x), some (.int y), none, none, none, none]) pf_X10_farOf ok_X10_farOf rfl rfl ?_
  refine ev_iload_n rfl rfl rfl ?_
  refine ev_iload_n rfl rfl rfl ?_
  refine ev_icmp_ge rfl rfl (fun c_2 => ?_) (fun c_2 => ?_)
  · refine ev_iload_n rfl rfl rfl ?_
    refine ev_istore_n rfl rfl rfl rfl ?_
    dsimp only [List.set]
    refine ev_iload_n rfl rfl rfl ?_
    refine ev_iload_n rfl rfl rfl ?_
    refine ev_icmp_ge rfl rfl (fun c_13 => ?_) (fun c_13 => ?_)
    · refine ev_iload_n rfl rfl rfl ?_
      refine ev_istore rfl rfl rfl rfl ?_
      dsimp only [List.set]
      refine ev_iload rfl rfl rfl ?_
      refine ev_iload_n rfl rfl rfl ?_
      refine ev_isub rfl rfl ?_
      refine ev_istore rfl rfl rfl rfl ?_
      dsimp only [List.set]
      refine ev_iconst (v := 0) rfl rfl (by decide) ?_
      refine ev_istore rfl rfl rfl rfl ?_
      dsimp only [List.set]
      refine ev_iload rfl rfl rfl ?_
      refine ev_aload_n rfl rfl rfl ?_
      refine ev_getI rfl rfl fl_X10_349 rfl rfl rfl ?_
      refine ev_icmp_ge rfl rfl (fun c_38 => ?_) (fun z_ => absurd (by rw [hd]; exact Int32.le_refl _) z_)
      refine ev_iload rfl rfl rfl ?_
      exact ev_iret rfl rfl rfl (⟨congrArg (fun z => some (Value.int z)) (by first | (simp only [r_mfar, if_pos c_2, if_pos c_13, if_pos c_38]; done) | contradiction), rfl, rfl⟩)
    · refine ev_iload_n rfl rfl rfl ?_
      refine ev_goto rfl rfl ?_
      refine ev_istore rfl rfl rfl rfl ?_
      dsimp only [List.set]
      refine ev_iload rfl rfl rfl ?_
      refine ev_iload_n rfl rfl rfl ?_
      refine ev_isub rfl rfl ?_
      refine ev_istore rfl rfl rfl rfl ?_
      dsimp only [List.set]
      refine ev_iconst (v := 0) rfl rfl (by decide) ?_
      refine ev_istore rfl rfl rfl rfl ?_
      dsimp only [List.set]
      refine ev_iload rfl rfl rfl ?_
      refine ev_aload_n rfl rfl rfl ?_
      refine ev_getI rfl rfl fl_X10_349 rfl rfl rfl ?_
      refine ev_icmp_ge rfl rfl (fun c_38 => ?_) (fun z_ => absurd (by rw [hd]; exact Int32.le_refl _) z_)
      refine ev_iload rfl rfl rfl ?_
      exact ev_iret rfl rfl rfl (⟨congrArg (fun z => some (Value.int z)) (by first | (simp only [r_mfar, if_pos c_2, if_neg c_13, if_pos c_38]; done) | contradiction), rfl, rfl⟩)
  · refine ev_iload_n rfl rfl rfl ?_
    refine ev_goto rfl rfl ?_
    refine ev_istore_n rfl rfl rfl rfl ?_
    dsimp only [List.set]
    refine ev_iload_n rfl rfl rfl ?_
    refine ev_iload_n rfl rfl rfl ?_
    refine ev_icmp_ge rfl rfl (fun c_13 => ?_) (fun c_13 => ?_)
    · refine ev_iload_n rfl rfl rfl ?_
      refine ev_istore rfl rfl rfl rfl ?_
      dsimp only [List.set]
      refine ev_iload rfl rfl rfl ?_
      refine ev_iload_n rfl rfl rfl ?_
      refine ev_isub rfl rfl ?_
      refine ev_istore rfl rfl rfl rfl ?_
      dsimp only [List.set]
      refine ev_iconst (v := 0) rfl rfl (by decide) ?_
      refine ev_istore rfl rfl rfl rfl ?_
      dsimp only [List.set]
      refine ev_iload rfl rfl rfl ?_
      refine ev_aload_n rfl rfl rfl ?_
      refine ev_getI rfl rfl fl_X10_349 rfl rfl rfl ?_
      refine ev_icmp_ge rfl rfl (fun c_38 => ?_) (fun z_ => absurd (by rw [hd]; exact Int32.le_refl _) z_)
      refine ev_iload rfl rfl rfl ?_
      exact ev_iret rfl rfl rfl (⟨congrArg (fun z => some (Value.int z)) (by first | (simp only [r_mfar, if_neg c_2, if_pos c_13, if_pos c_38]; done) | contradiction), rfl, rfl⟩)
    · refine ev_iload_n rfl rfl rfl ?_
      refine ev_goto rfl rfl ?_
      refine ev_istore rfl rfl rfl rfl ?_
      dsimp only [List.set]
      refine ev_iload rfl rfl rfl ?_
      refine ev_iload_n rfl rfl rfl ?_
      refine ev_isub rfl rfl ?_
      refine ev_istore rfl rfl rfl rfl ?_
      dsimp only [List.set]
      refine ev_iconst (v := 0) rfl rfl (by decide) ?_
      refine ev_istore rfl rfl rfl rfl ?_
      dsimp only [List.set]
      refine ev_iload rfl rfl rfl ?_
      refine ev_aload_n rfl rfl rfl ?_
      refine ev_getI rfl rfl fl_X10_349 rfl rfl rfl ?_
      refine ev_icmp_ge rfl rfl (fun c_38 => ?_) (fun z_ => absurd (by rw [hd]; exact Int32.le_refl _) z_)
      refine ev_iload rfl rfl rfl ?_
      exact ev_iret rfl rfl rfl (⟨congrArg (fun z => some (Value.int z)) (by first | (simp only [r_mfar, if_neg c_2, if_neg c_13, if_pos c_38]; done) | contradiction), rfl, rfl⟩)

set_option maxRecDepth 100000 in
set_option maxHeartbeats 4000000 in
theorem m_far (L : Nat) (b : Bool) (h : Hp) (hd : h 63 48 = 0) (x y : Int32) : EvX mi_X10_far [.ref 63, .int x, .int y] (G0 L b) h (if z_wi x 0 999 = 0 then -1 else if z_wi y 0 999 = 0 then -1 else r_mfar x y) := by
  refine EvM.of2 (lo := [some (.ref 63), some (.int x), some (.int y)]) pf_X10_far ok_X10_far rfl rfl ?_
  refine ev_iload_n rfl rfl rfl ?_
  refine ev_i2l rfl rfl ?_
  refine ev_lconst (v := 0) rfl rfl rfl ?_
  refine ev_ldc2 rfl rfl kc_X10_342 ?_
  refine ev_S3D rfl rfl lk_X10_124 st_X10_in rfl rfl (c_inw _ _ _ (0) (999) (by decide) (by decide)) ?_
  refine ev_if_eq rfl rfl (fun c_9 => ?_) (fun c_9 => ?_)
  · refine ev_iconst (v := (-1)) rfl rfl (by decide) ?_
    exact ev_iret rfl rfl rfl (⟨congrArg (fun z => some (Value.int z)) (by simp only [if_pos c_9]), rfl⟩)
  · refine ev_iload_n rfl rfl rfl ?_
    refine ev_i2l rfl rfl ?_
    refine ev_lconst (v := 0) rfl rfl rfl ?_
    refine ev_ldc2 rfl rfl kc_X10_342 ?_
    refine ev_S3D rfl rfl lk_X10_124 st_X10_in rfl rfl (c_inw _ _ _ (0) (999) (by decide) (by decide)) ?_
    refine ev_if_eq rfl rfl (fun c_21 => ?_) (fun c_21 => ?_)
    · refine ev_iconst (v := (-1)) rfl rfl (by decide) ?_
      exact ev_iret rfl rfl rfl (⟨congrArg (fun z => some (Value.int z)) (by simp only [if_neg c_9, if_pos c_21]), rfl⟩)
    · refine ev_aload_n rfl rfl rfl ?_
      refine ev_iload_n rfl rfl rfl ?_
      refine ev_iload_n rfl rfl rfl ?_
      refine ev_V2D rfl rfl lk_X10_352 vt_X10_farOf rfl rfl rfl rfl rfl (m_farOf _ _ _ hd _ _) ?_
      refine ev_goto rfl rfl ?_
      exact ev_iret rfl rfl rfl (⟨congrArg (fun z => some (Value.int z)) (by simp only [if_neg c_9, if_neg c_21]), rfl⟩)

def z_sht (k l : Int32) : Int32 := if z_wi k 0 3 = 0 then 0 else if z_wi l 0 2 = 0 then 0 else 1

set_option maxRecDepth 100000 in
set_option maxHeartbeats 4000000 in
theorem c_isSheet (G : Geo) (h : Hp) (k l : Int32) : EvD mi_X10_isSheet [.int k, .int l] G h (z_sht k l) (h) := by
  refine EvD.of (lo := [some (.int k), some (.int l)]) pf_X10_isSheet ok_X10_isSheet rfl rfl ?_
  refine ev_iload_n rfl rfl rfl ?_
  refine ev_i2l rfl rfl ?_
  refine ev_lconst (v := 0) rfl rfl rfl ?_
  refine ev_ldc2 rfl rfl kc_X10_269 ?_
  refine ev_S3D rfl rfl lk_X10_124 st_X10_in rfl rfl (c_inw _ _ _ (0) (3) (by decide) (by decide)) ?_
  refine ev_if_eq rfl rfl (fun c_9 => ?_) (fun c_9 => ?_)
  · refine ev_iconst (v := 0) rfl rfl (by decide) ?_
    exact ev_iret rfl rfl rfl (⟨congrArg (fun z => some (Value.int z)) (by simp only [z_sht, if_pos c_9]), rfl, rfl⟩)
  · refine ev_iload_n rfl rfl rfl ?_
    refine ev_i2l rfl rfl ?_
    refine ev_lconst (v := 0) rfl rfl rfl ?_
    refine ev_ldc2 rfl rfl kc_X10_183 ?_
    refine ev_S3D rfl rfl lk_X10_124 st_X10_in rfl rfl (c_inw _ _ _ (0) (2) (by decide) (by decide)) ?_
    refine ev_if_eq rfl rfl (fun c_21 => ?_) (fun c_21 => ?_)
    · refine ev_iconst (v := 0) rfl rfl (by decide) ?_
      exact ev_iret rfl rfl rfl (⟨congrArg (fun z => some (Value.int z)) (by simp only [z_sht, if_neg c_9, if_pos c_21]), rfl, rfl⟩)
    · refine ev_iconst (v := 1) rfl rfl (by decide) ?_
      refine ev_goto rfl rfl ?_
      exact ev_iret rfl rfl rfl (⟨congrArg (fun z => some (Value.int z)) (by simp only [z_sht, if_neg c_9, if_neg c_21]), rfl, rfl⟩)

set_option maxRecDepth 100000 in
set_option maxHeartbeats 4000000 in
theorem m_undo (L : Nat) (b : Bool) (h : Hp) (hx : h 63 13 = 0)  : EvX mi_X10_undo [.ref 63] (G0 L b) h (-4) := by
  refine EvM.of2 (lo := [some (.ref 63), none, none]) pf_X10_undo ok_X10_undo rfl rfl ?_
  refine ev_aload_n rfl rfl rfl ?_
  refine ev_getI rfl rfl fl_X10_128 rfl rfl rfl ?_
  refine ev_if_ne rfl rfl (fun z_ => absurd hx z_) (fun c_4 => ?_)
  refine ev_bipush (v := (-4)) rfl rfl (by decide) ?_
  exact ev_iret rfl rfl rfl (⟨rfl, rfl⟩)

theorem z_sht_k {k l : Int32} (q : ¬ z_sht k l = 0) : ∃ j, j < 4 ∧ k = nI j := by
  unfold z_sht z_wi at q
  by_cases q1 : k < 0
  · rw [if_pos q1] at q; exact absurd rfl q
  · rw [if_neg q1] at q
    by_cases q2 : (3 : Int32) < k
    · rw [if_pos q2] at q; exact absurd rfl q
    · obtain ⟨j, hj, e⟩ := nI_of2 (n := 3) (M := 3) rfl q1 (Int32.not_lt.mp q2)
      exact ⟨j, by omega, e⟩

def k_cl (h : Hp) (k : Nat) : Nat → Hp
  | 0 => h
  | i + 1 => ev_set (k_cl h k i) 94 (60 * k + i) 0

set_option maxRecDepth 100000 in
set_option maxHeartbeats 4000000 in
theorem l_msheet (L : Nat) (b : Bool) (h : Hp) (k : Nat) (hk : k < 4) (l n : Int32) : ∀ t i : Nat, i + t = 60 → EvQ mi_X10_sheet 40 [some (.ref 63), some (.int (nI k)), some (.int l), some (.int n), some (.int (nI i))] [] (G0 L b) (k_cl h k i) 0 0 (fun v G' _ => v = some (.int 1) ∧ G' = G0 L b) := by
  intro t
  induction t with
  | zero =>
    intro i hi
    have hi2 : i = 60 := by omega
    subst hi2
    refine ev_iload rfl rfl rfl ?_
    refine ev_bipush (v := 60) rfl rfl (by decide) ?_
    refine ev_icmp_ge rfl rfl (fun c_44 => ?_) (fun z_ => absurd (show (60 : Int32) ≤ nI 60 by decide) z_)
    refine ev_iconst (v := 1) rfl rfl (by decide) ?_
    exact ev_iret rfl rfl rfl (⟨rfl, rfl⟩)
  | succ t ih =>
    intro i hi
    refine ev_iload rfl rfl rfl ?_
    refine ev_bipush (v := 60) rfl rfl (by decide) ?_
    refine ev_icmp_ge rfl rfl (fun z_ => absurd z_ (show ¬ nI 60 ≤ nI i from nI_ge (by omega) (by omega))) (fun c_44 => ?_)
    refine ev_aload_n rfl rfl rfl ?_
    refine ev_getR rfl rfl fl_X10_118 rfl rfl rfl rfl ?_
    refine ev_bipush (v := 60) rfl rfl (by decide) ?_
    refine ev_iload_n rfl rfl rfl ?_
    refine ev_imul rfl rfl ?_
    refine ev_iload rfl rfl rfl ?_
    refine ev_iadd rfl rfl ?_
    refine ev_iconst (v := 0) rfl rfl (by decide) ?_
    refine ev_iast (j := 60 * k + i) rfl rfl rfl rfl (by rw [show (60 : Int32) * nI k = nI (60 * k) from nI_mul 60 k, nI_add]; exact vp_in_nI (by omega) (by decide)) (by rw [show (60 : Int32) * nI k = nI (60 * k) from nI_mul 60 k, nI_add]; exact nI_clamp (by omega)) ?_
    refine ev_iinc (y := 1) rfl rfl rfl (by decide) rfl rfl ?_
    dsimp only [List.set]
    refine ev_goto rfl rfl ?_
    have z_ := ih (i + 1) (by omega)
    simp only [k_cl] at z_
    rw [nI_1 i]
    exact z_

set_option maxRecDepth 100000 in
set_option maxHeartbeats 4000000 in
theorem m_sheet (L : Nat) (b : Bool) (h : Hp) (k l n : Int32) : EvX mi_X10_sheet [.ref 63, .int k, .int l, .int n] (G0 L b) h (if z_sht k l = 0 then -1 else if n ≤ 60 then (if 0 ≤ n then 1 else -14) else -1) := by
  refine EvM.of2 (lo := [some (.ref 63), some (.int k), some (.int l), some (.int n), none]) pf_X10_sheet ok_X10_sheet rfl rfl ?_
  refine ev_iload_n rfl rfl rfl ?_
  refine ev_iload_n rfl rfl rfl ?_
  refine ev_S2D rfl rfl lk_X10_335 st_X10_isSheet rfl rfl (c_isSheet _ _ _ _) ?_
  refine ev_if_eq rfl rfl (fun c_5 => ?_) (fun c_5 => ?_)
  · refine ev_iconst (v := (-1)) rfl rfl (by decide) ?_
    exact ev_iret rfl rfl rfl (⟨congrArg (fun z => some (Value.int z)) (by simp only [if_pos c_5]), rfl⟩)
  · refine ev_iload_n rfl rfl rfl ?_
    refine ev_bipush (v := 60) rfl rfl (by decide) ?_
    refine ev_icmp_le rfl rfl (fun c_11 => ?_) (fun c_11 => ?_)
    · refine ev_iload_n rfl rfl rfl ?_
      refine ev_if_ge rfl rfl (fun c_17 => ?_) (fun c_17 => ?_)
      · obtain ⟨j, hj, rfl⟩ := z_sht_k c_5
        refine ev_aload_n rfl rfl rfl ?_
        refine ev_getR rfl rfl fl_X10_112 rfl rfl rfl rfl ?_
        refine ev_iload_n rfl rfl rfl ?_
        refine ev_iload_n rfl rfl rfl ?_
        refine ev_iast rfl rfl rfl rfl (vp_in_nI (by omega) (by decide)) (nI_clamp (by omega)) ?_
        refine ev_aload_n rfl rfl rfl ?_
        refine ev_getR rfl rfl fl_X10_115 rfl rfl rfl rfl ?_
        refine ev_iload_n rfl rfl rfl ?_
        refine ev_iload_n rfl rfl rfl ?_
        refine ev_iast rfl rfl rfl rfl (vp_in_nI (by omega) (by decide)) (nI_clamp (by omega)) ?_
        refine ev_iconst (v := 0) rfl rfl (by decide) ?_
        refine ev_istore rfl rfl rfl rfl ?_
        dsimp only [List.set]
        refine EvQ.mono (l_msheet L b _ j hj l n 60 0 (by omega)) (Nat.le_refl _) (Nat.le_refl _) ?_
        intro v G' h' q_
        exact ⟨q_.1.trans (congrArg (fun z => some (Value.int z)) (by simp only [if_neg c_5, if_pos c_11, if_pos c_17])), q_.2⟩
      · refine ev_bipush (v := (-14)) rfl rfl (by decide) ?_
        exact ev_iret rfl rfl rfl (⟨congrArg (fun z => some (Value.int z)) (by simp only [if_neg c_5, if_pos c_11, if_neg c_17]), rfl⟩)
    · refine ev_iconst (v := (-1)) rfl rfl (by decide) ?_
      exact ev_iret rfl rfl rfl (⟨congrArg (fun z => some (Value.int z)) (by simp only [if_neg c_5, if_neg c_11]), rfl⟩)

set_option maxRecDepth 100000 in
set_option maxHeartbeats 4000000 in
theorem m_lay (L : Nat) (b : Bool) (h : Hp) (hs : ∀ j, j < 4 → h 92 j = -4) (k i v : Int32) : EvX mi_X10_lay [.ref 63, .int k, .int i, .int v] (G0 L b) h (if z_sht k 0 = 0 then -1 else -11) := by
  refine EvM.of2 (lo := [some (.ref 63), some (.int k), some (.int i), some (.int v)]) pf_X10_lay ok_X10_lay rfl rfl ?_
  refine ev_iload_n rfl rfl rfl ?_
  refine ev_iconst (v := 0) rfl rfl (by decide) ?_
  refine ev_S2D rfl rfl lk_X10_335 st_X10_isSheet rfl rfl (c_isSheet _ _ _ _) ?_
  refine ev_if_ne rfl rfl (fun c_5 => ?_) (fun c_5 => ?_)
  · obtain ⟨j, hj, rfl⟩ := z_sht_k c_5
    refine ev_aload_n rfl rfl rfl ?_
    refine ev_getR rfl rfl fl_X10_112 rfl rfl rfl rfl ?_
    refine ev_iload_n rfl rfl rfl ?_
    refine ev_iald rfl rfl rfl (vp_in_nI (by omega) (by decide)) (nI_clamp (by omega)) ?_
    try simp (disch := omega) only [k_mkeep, ev_rd1, ev_rd2, ev_rd3, k_mk_ne]
    refine ev_bipush (v := (-4)) rfl rfl (by decide) ?_
    refine ev_icmp_ne rfl rfl (fun z_ => absurd (hs j hj) z_) (fun c_18 => ?_)
    refine ev_bipush (v := (-11)) rfl rfl (by decide) ?_
    exact ev_iret rfl rfl rfl (⟨congrArg (fun z => some (Value.int z)) (by simp only [if_neg c_5, if_pos c_18]), rfl⟩)
  · refine ev_iconst (v := (-1)) rfl rfl (by decide) ?_
    exact ev_iret rfl rfl rfl (⟨congrArg (fun z => some (Value.int z)) (by simp only [if_pos c_5]), rfl⟩)

theorem z_sht_m (k : Int32) : z_sht k (-4) = 0 := by
  unfold z_sht
  split
  · rfl
  · rfl

set_option maxRecDepth 100000 in
set_option maxHeartbeats 4000000 in
theorem m_scan (L : Nat) (b : Bool) (h : Hp) (hs : ∀ j, j < 4 → h 92 j = -4) (k l f n : Int32) : EvX mi_X10_scan [.ref 63, .int k, .int l, .int f, .int n] (G0 L b) h (if z_sht k l = 0 then -1 else if z_wi n 0 12 = 0 then -1 else -11) := by
  refine EvM.of2 (lo := [some (.ref 63), some (.int k), some (.int l), some (.int f), some (.int n), none, none, none, none, none, none, none]) pf_X10_scan ok_X10_scan rfl rfl ?_
  refine ev_iload_n rfl rfl rfl ?_
  refine ev_iload_n rfl rfl rfl ?_
  refine ev_S2D rfl rfl lk_X10_335 st_X10_isSheet rfl rfl (c_isSheet _ _ _ _) ?_
  refine ev_if_eq rfl rfl (fun c_5 => ?_) (fun c_5 => ?_)
  · refine ev_iconst (v := (-1)) rfl rfl (by decide) ?_
    exact ev_iret rfl rfl rfl (⟨congrArg (fun z => some (Value.int z)) (by simp only [if_pos c_5]), rfl⟩)
  · refine ev_iload rfl rfl rfl ?_
    refine ev_i2l rfl rfl ?_
    refine ev_lconst (v := 0) rfl rfl rfl ?_
    refine ev_ldc2 rfl rfl kc_X10_358 ?_
    refine ev_S3D rfl rfl lk_X10_124 st_X10_in rfl rfl (c_inw _ _ _ (0) (12) (by decide) (by decide)) ?_
    refine ev_if_ne rfl rfl (fun c_18 => ?_) (fun c_18 => ?_)
    · obtain ⟨j, hj, rfl⟩ := z_sht_k c_5
      have hl : ¬ h 92 j = l := by
        rw [hs j hj]
        intro e_
        subst e_
        exact c_5 (z_sht_m _)
      refine ev_aload_n rfl rfl rfl ?_
      refine ev_getR rfl rfl fl_X10_112 rfl rfl rfl rfl ?_
      refine ev_iload_n rfl rfl rfl ?_
      refine ev_iald rfl rfl rfl (vp_in_nI (by omega) (by decide)) (nI_clamp (by omega)) ?_
      try simp (disch := omega) only [k_mkeep, ev_rd1, ev_rd2, ev_rd3, k_mk_ne]
      refine ev_iload_n rfl rfl rfl ?_
      refine ev_icmp_eq rfl rfl (fun z_ => absurd z_ hl) (fun c_30 => ?_)
      refine ev_aload_n rfl rfl rfl ?_
      refine ev_getR rfl rfl fl_X10_112 rfl rfl rfl rfl ?_
      refine ev_iload_n rfl rfl rfl ?_
      refine ev_iald rfl rfl rfl (vp_in_nI (by omega) (by decide)) (nI_clamp (by omega)) ?_
      try simp (disch := omega) only [k_mkeep, ev_rd1, ev_rd2, ev_rd3, k_mk_ne]
      refine ev_bipush (v := (-4)) rfl rfl (by decide) ?_
      refine ev_icmp_ne rfl rfl (fun z_ => absurd (hs j hj) z_) (fun c_41 => ?_)
      refine ev_bipush (v := (-11)) rfl rfl (by decide) ?_
      refine ev_goto rfl rfl ?_
      exact ev_iret rfl rfl rfl (⟨congrArg (fun z => some (Value.int z)) (by simp only [if_neg c_5, if_neg c_18, if_neg c_30, if_pos c_41]), rfl⟩)
    · refine ev_iconst (v := (-1)) rfl rfl (by decide) ?_
      exact ev_iret rfl rfl rfl (⟨congrArg (fun z => some (Value.int z)) (by simp only [if_neg c_5, if_pos c_18]), rfl⟩)

set_option maxRecDepth 100000 in
set_option maxHeartbeats 4000000 in
theorem m_count (L : Nat) (b : Bool) (h : Hp) (hw : h 63 5 = 0) (hs : ∀ j, j < 4 → h 92 j = -4) (q : Int32) : EvX mi_X10_count [.ref 63, .int q] (G0 L b) h (if q = 0 then h 63 5 else if q = 1 then h 63 23 else if q = 2 then h 63 45 else if q = 3 then h 63 48 else if q = 4 then 0 else if q = 5 then 0 else if q = 6 then h 63 13 else if q = 7 then h 63 16 else if q = 8 then -4 else -1) := by
  refine EvM.of2 (lo := [some (.ref 63), some (.int q), none, none, none]) pf_X10_count ok_X10_count rfl rfl ?_
  refine ev_iconst (v := 0) rfl rfl (by decide) ?_
  refine ev_istore_n rfl rfl rfl rfl ?_
  dsimp only [List.set]
  refine ev_iconst (v := 0) rfl rfl (by decide) ?_
  refine ev_istore_n rfl rfl rfl rfl ?_
  dsimp only [List.set]
  refine ev_iconst (v := 0) rfl rfl (by decide) ?_
  refine ev_istore rfl rfl rfl rfl ?_
  dsimp only [List.set]
  refine ev_iload rfl rfl rfl ?_
  refine ev_aload_n rfl rfl rfl ?_
  refine ev_getI rfl rfl fl_X10_121 rfl rfl rfl ?_
  refine ev_icmp_ge rfl rfl (fun c_13 => ?_) (fun z_ => absurd (by rw [hw]; exact Int32.le_refl _) z_)
  refine ev_iload_n rfl rfl rfl ?_
  rcases ev_sw q 0 8 with w_ | ⟨w_, w2_⟩
  · have n0_ : ¬ q = 0 := fun e_ => by rw [e_] at w_; exact absurd w_ (by decide)
    have n1_ : ¬ q = 1 := fun e_ => by rw [e_] at w_; exact absurd w_ (by decide)
    have n2_ : ¬ q = 2 := fun e_ => by rw [e_] at w_; exact absurd w_ (by decide)
    have n3_ : ¬ q = 3 := fun e_ => by rw [e_] at w_; exact absurd w_ (by decide)
    have n4_ : ¬ q = 4 := fun e_ => by rw [e_] at w_; exact absurd w_ (by decide)
    have n5_ : ¬ q = 5 := fun e_ => by rw [e_] at w_; exact absurd w_ (by decide)
    have n6_ : ¬ q = 6 := fun e_ => by rw [e_] at w_; exact absurd w_ (by decide)
    have n7_ : ¬ q = 7 := fun e_ => by rw [e_] at w_; exact absurd w_ (by decide)
    have n8_ : ¬ q = 8 := fun e_ => by rw [e_] at w_; exact absurd w_ (by decide)
    refine ev_tabOut 165 rfl w_ (by decide) ?_
    refine ev_iconst (v := (-1)) rfl rfl (by decide) ?_
    exact ev_iret rfl rfl rfl (⟨congrArg (fun z => some (Value.int z)) (by simp only [if_pos c_13, if_neg n0_, if_neg n1_, if_neg n2_, if_neg n3_, if_neg n4_, if_neg n5_, if_neg n6_, if_neg n7_, if_neg n8_]), rfl⟩)
  · have w3_ : q = 0 ∨ q = 1 ∨ q = 2 ∨ q = 3 ∨ q = 4 ∨ q = 5 ∨ q = 6 ∨ q = 7 ∨ q = 8 := by simp only [← Int32.toInt_inj]; have e_ := w_; have e2_ := w2_; simp only [Int32.reduceToInt] at *; omega
    rcases w3_ with e_ | e_ | e_ | e_ | e_ | e_ | e_ | e_ | e_
    · refine ev_tabIn 108 rfl (by rw [e_]; decide) (by rw [e_]; decide) (by rw [e_]; rfl) (by decide) ?_
      refine ev_aload_n rfl rfl rfl ?_
      refine ev_getI rfl rfl fl_X10_121 rfl rfl rfl ?_
      exact ev_iret rfl rfl rfl (⟨congrArg (fun z => some (Value.int z)) (by simp only [if_pos c_13, if_pos e_]), rfl⟩)
    · have n0_ : ¬ q = 0 := by rw [e_]; decide
      refine ev_tabIn 113 rfl (by rw [e_]; decide) (by rw [e_]; decide) (by rw [e_]; rfl) (by decide) ?_
      refine ev_aload_n rfl rfl rfl ?_
      refine ev_getI rfl rfl fl_X10_257 rfl rfl rfl ?_
      exact ev_iret rfl rfl rfl (⟨congrArg (fun z => some (Value.int z)) (by simp only [if_pos c_13, if_neg n0_, if_pos e_]), rfl⟩)
    · have n0_ : ¬ q = 0 := by rw [e_]; decide
      have n1_ : ¬ q = 1 := by rw [e_]; decide
      refine ev_tabIn 118 rfl (by rw [e_]; decide) (by rw [e_]; decide) (by rw [e_]; rfl) (by decide) ?_
      refine ev_aload_n rfl rfl rfl ?_
      refine ev_getI rfl rfl fl_X10_346 rfl rfl rfl ?_
      exact ev_iret rfl rfl rfl (⟨congrArg (fun z => some (Value.int z)) (by simp only [if_pos c_13, if_neg n0_, if_neg n1_, if_pos e_]), rfl⟩)
    · have n0_ : ¬ q = 0 := by rw [e_]; decide
      have n1_ : ¬ q = 1 := by rw [e_]; decide
      have n2_ : ¬ q = 2 := by rw [e_]; decide
      refine ev_tabIn 123 rfl (by rw [e_]; decide) (by rw [e_]; decide) (by rw [e_]; rfl) (by decide) ?_
      refine ev_aload_n rfl rfl rfl ?_
      refine ev_getI rfl rfl fl_X10_349 rfl rfl rfl ?_
      exact ev_iret rfl rfl rfl (⟨congrArg (fun z => some (Value.int z)) (by simp only [if_pos c_13, if_neg n0_, if_neg n1_, if_neg n2_, if_pos e_]), rfl⟩)
    · have n0_ : ¬ q = 0 := by rw [e_]; decide
      have n1_ : ¬ q = 1 := by rw [e_]; decide
      have n2_ : ¬ q = 2 := by rw [e_]; decide
      have n3_ : ¬ q = 3 := by rw [e_]; decide
      refine ev_tabIn 128 rfl (by rw [e_]; decide) (by rw [e_]; decide) (by rw [e_]; rfl) (by decide) ?_
      refine ev_iload_n rfl rfl rfl ?_
      exact ev_iret rfl rfl rfl (⟨congrArg (fun z => some (Value.int z)) (by simp only [if_pos c_13, if_neg n0_, if_neg n1_, if_neg n2_, if_neg n3_, if_pos e_]), rfl⟩)
    · have n0_ : ¬ q = 0 := by rw [e_]; decide
      have n1_ : ¬ q = 1 := by rw [e_]; decide
      have n2_ : ¬ q = 2 := by rw [e_]; decide
      have n3_ : ¬ q = 3 := by rw [e_]; decide
      have n4_ : ¬ q = 4 := by rw [e_]; decide
      refine ev_tabIn 130 rfl (by rw [e_]; decide) (by rw [e_]; decide) (by rw [e_]; rfl) (by decide) ?_
      refine ev_iload_n rfl rfl rfl ?_
      exact ev_iret rfl rfl rfl (⟨congrArg (fun z => some (Value.int z)) (by simp only [if_pos c_13, if_neg n0_, if_neg n1_, if_neg n2_, if_neg n3_, if_neg n4_, if_pos e_]), rfl⟩)
    · have n0_ : ¬ q = 0 := by rw [e_]; decide
      have n1_ : ¬ q = 1 := by rw [e_]; decide
      have n2_ : ¬ q = 2 := by rw [e_]; decide
      have n3_ : ¬ q = 3 := by rw [e_]; decide
      have n4_ : ¬ q = 4 := by rw [e_]; decide
      have n5_ : ¬ q = 5 := by rw [e_]; decide
      refine ev_tabIn 132 rfl (by rw [e_]; decide) (by rw [e_]; decide) (by rw [e_]; rfl) (by decide) ?_
      refine ev_aload_n rfl rfl rfl ?_
      refine ev_getI rfl rfl fl_X10_128 rfl rfl rfl ?_
      exact ev_iret rfl rfl rfl (⟨congrArg (fun z => some (Value.int z)) (by simp only [if_pos c_13, if_neg n0_, if_neg n1_, if_neg n2_, if_neg n3_, if_neg n4_, if_neg n5_, if_pos e_]), rfl⟩)
    · have n0_ : ¬ q = 0 := by rw [e_]; decide
      have n1_ : ¬ q = 1 := by rw [e_]; decide
      have n2_ : ¬ q = 2 := by rw [e_]; decide
      have n3_ : ¬ q = 3 := by rw [e_]; decide
      have n4_ : ¬ q = 4 := by rw [e_]; decide
      have n5_ : ¬ q = 5 := by rw [e_]; decide
      have n6_ : ¬ q = 6 := by rw [e_]; decide
      refine ev_tabIn 137 rfl (by rw [e_]; decide) (by rw [e_]; decide) (by rw [e_]; rfl) (by decide) ?_
      refine ev_aload_n rfl rfl rfl ?_
      refine ev_getI rfl rfl fl_X10_186 rfl rfl rfl ?_
      exact ev_iret rfl rfl rfl (⟨congrArg (fun z => some (Value.int z)) (by simp only [if_pos c_13, if_neg n0_, if_neg n1_, if_neg n2_, if_neg n3_, if_neg n4_, if_neg n5_, if_neg n6_, if_pos e_]), rfl⟩)
    · have n0_ : ¬ q = 0 := by rw [e_]; decide
      have n1_ : ¬ q = 1 := by rw [e_]; decide
      have n2_ : ¬ q = 2 := by rw [e_]; decide
      have n3_ : ¬ q = 3 := by rw [e_]; decide
      have n4_ : ¬ q = 4 := by rw [e_]; decide
      have n5_ : ¬ q = 5 := by rw [e_]; decide
      have n6_ : ¬ q = 6 := by rw [e_]; decide
      have n7_ : ¬ q = 7 := by rw [e_]; decide
      refine ev_tabIn 142 rfl (by rw [e_]; decide) (by rw [e_]; decide) (by rw [e_]; rfl) (by decide) ?_
      refine ev_aload_n rfl rfl rfl ?_
      refine ev_getR rfl rfl fl_X10_112 rfl rfl rfl rfl ?_
      refine ev_iconst (v := 0) rfl rfl (by decide) ?_
      refine ev_iald (j := 0) rfl rfl rfl (by unfold vp_in; decide) (by decide) ?_
      refine ev_bipush (v := (-4)) rfl rfl (by decide) ?_
      refine ev_icmp_ne rfl rfl (fun z_ => absurd (hs 0 (by decide)) z_) (fun c_150 => ?_)
      refine ev_bipush (v := (-4)) rfl rfl (by decide) ?_
      refine ev_goto rfl rfl ?_
      exact ev_iret rfl rfl rfl (⟨congrArg (fun z => some (Value.int z)) (by simp only [if_pos c_13, if_neg n0_, if_neg n1_, if_neg n2_, if_neg n3_, if_neg n4_, if_neg n5_, if_neg n6_, if_neg n7_, if_pos e_, if_pos c_150]), rfl⟩)

theorem k_mkeep_63 {h : Hp} {n j : Nat} (hj : j ≠ 13) : k_mkeep h n 63 j = h 63 j := (ev_rd3 hj).trans (k_mk_ne (by decide) 12)

set_option maxRecDepth 100000 in
set_option maxHeartbeats 4000000 in
theorem m_beat (L : Nat) (b : Bool) (h : Hp) (hx : h 63 13 = 0) (hw : h 63 5 = 0) (hv : 0 ≤ h 63 1) (c : Int32) : EvX mi_X10_beat [.ref 63, .int c] (G0 L b) h (if z_wi c 0 0 = 0 then -1 else 0) := by
  refine EvM.of2 (lo := [some (.ref 63), some (.int c)]) pf_X10_beat ok_X10_beat rfl rfl ?_
  refine ev_iload_n rfl rfl rfl ?_
  refine ev_i2l rfl rfl ?_
  refine ev_lconst (v := 0) rfl rfl rfl ?_
  refine ev_iconst (v := 1) rfl rfl (by decide) ?_
  refine ev_aload_n rfl rfl rfl ?_
  refine ev_getI rfl rfl fl_X10_121 rfl rfl rfl ?_
  refine ev_ishl rfl rfl ?_
  refine ev_iconst (v := 1) rfl rfl (by decide) ?_
  refine ev_isub rfl rfl ?_
  refine ev_i2l rfl rfl ?_
  refine ev_S3D rfl rfl lk_X10_124 st_X10_in rfl rfl (c_inw _ _ _ (0) (1 <<< (h 63 5 &&& 31) - 1) (by decide) rfl) ?_
  rw [show z_wi c 0 (1 <<< (h 63 5 &&& 31) - 1) = z_wi c 0 0 from by rw [hw]; rfl]
  refine ev_if_ne rfl rfl (fun c_15 => ?_) (fun c_15 => ?_)
  · refine ev_aload_n rfl rfl rfl ?_
    refine ev_iload_n rfl rfl rfl ?_
    refine ev_V1D rfl rfl lk_X10_145 vt_X10_drawn rfl rfl rfl rfl rfl (m_drawn _ _ _ hw _) ?_
    refine ev_aload_n rfl rfl rfl ?_
    refine ev_getI rfl rfl fl_X10_13 rfl rfl rfl ?_
    try simp (disch := omega) only [k_mkeep, ev_rd1, ev_rd2, ev_rd3, k_mk_ne]
    refine ev_icmp_le rfl rfl (fun c_29 => ?_) (fun z_ => absurd hv z_)
    refine ev_aload_n rfl rfl rfl ?_
    refine ev_V0U rfl rfl lk_X10_136 vt_X10_keeps rfl rfl rfl rfl rfl (c_mkeeps _ _ _ 0 (by decide) hx) ?_
    refine ev_aload_n rfl rfl rfl ?_
    refine ev_iload_n rfl rfl rfl ?_
    refine ev_V1X rfl rfl lk_X10_162 vt_X10_goes rfl rfl rfl rfl rfl (m_goes L b _ ((k_mkeep_63 (by decide)).trans hw) (by rw [k_mkeep_63 (by decide)]; exact hv) c) (fun h1 => ?_)
    exact ev_iret rfl rfl rfl ⟨congrArg (fun z => some (Value.int z)) (by simp only [if_neg c_15, if_pos c_29]), rfl⟩
  · refine ev_iconst (v := (-1)) rfl rfl (by decide) ?_
    exact ev_iret rfl rfl rfl (⟨congrArg (fun z => some (Value.int z)) (by simp only [if_pos c_15]), rfl⟩)

set_option maxRecDepth 100000 in
set_option maxHeartbeats 4000000 in
theorem m_feed (L : Nat) (b : Bool) (h : Hp) (hp : h 63 16 = 0) (x : Int64) : EvX mi_X10_feed [.ref 63, .long x] (G0 L b) h (8) := by
  refine EvM.of2 (lo := [some (.ref 63), some (.long x), none, none]) pf_X10_feed ok_X10_feed rfl rfl ?_
  refine ev_aload_n rfl rfl rfl ?_
  refine ev_getI rfl rfl fl_X10_186 rfl rfl rfl ?_
  refine ev_bipush (v := 8) rfl rfl (by decide) ?_
  refine ev_iadd rfl rfl ?_
  refine ev_sipush (v := 160) rfl rfl (by decide) ?_
  refine ev_icmp_le rfl rfl (fun c_10 => ?_) (fun z_ => absurd (by rw [hp]; decide) z_)
  refine ev_bipush (v := 56) rfl rfl (by decide) ?_
  refine ev_istore_n rfl rfl rfl rfl ?_
  dsimp only [List.set]
  refine ev_iload_n rfl rfl rfl ?_
  refine ev_if_lt rfl rfl (fun z_ => absurd z_ (by decide)) (fun c_20 => ?_)
  refine ev_aload_n rfl rfl rfl ?_
  refine ev_getR rfl rfl fl_X10_48 rfl rfl rfl rfl ?_
  refine ev_aload_n rfl rfl rfl ?_
  refine ev_getI rfl rfl fl_X10_186 rfl rfl rfl ?_
  refine ev_lload_n rfl rfl rfl ?_
  refine ev_iload_n rfl rfl rfl ?_
  refine ev_lshr rfl rfl ?_
  refine ev_ldc2 rfl rfl kc_X10_189 ?_
  refine ev_land rfl rfl ?_
  refine ev_l2i rfl rfl ?_
  refine ev_iast rfl rfl rfl rfl (by rw [hp]; unfold vp_in; decide) rfl ?_
  refine ev_aload_n rfl rfl rfl ?_
  refine ev_dup rfl rfl rfl ?_
  refine ev_getI rfl rfl fl_X10_186 rfl rfl rfl ?_
  try simp (disch := omega) only [ev_rd1, ev_rd2, ev_rd3, ev_rc1, k_keep_ne]
  refine ev_iconst (v := 1) rfl rfl (by decide) ?_
  refine ev_iadd rfl rfl ?_
  refine ev_putI rfl rfl fl_X10_186 rfl rfl rfl rfl rfl ?_
  refine ev_iinc (y := (-8)) rfl rfl rfl (by decide) rfl rfl ?_
  dsimp only [List.set]
  refine ev_goto rfl rfl ?_
  refine ev_iload_n rfl rfl rfl ?_
  refine ev_if_lt rfl rfl (fun z_ => absurd z_ (by decide)) (fun c_20b => ?_)
  refine ev_aload_n rfl rfl rfl ?_
  refine ev_getR rfl rfl fl_X10_48 rfl rfl rfl rfl ?_
  refine ev_aload_n rfl rfl rfl ?_
  refine ev_getI rfl rfl fl_X10_186 rfl rfl rfl ?_
  try simp (disch := omega) only [ev_rd1, ev_rd2, ev_rd3, ev_rc1, k_keep_ne]
  refine ev_lload_n rfl rfl rfl ?_
  refine ev_iload_n rfl rfl rfl ?_
  refine ev_lshr rfl rfl ?_
  refine ev_ldc2 rfl rfl kc_X10_189 ?_
  refine ev_land rfl rfl ?_
  refine ev_l2i rfl rfl ?_
  refine ev_iast rfl rfl rfl rfl (by rw [hp]; unfold vp_in; decide) rfl ?_
  refine ev_aload_n rfl rfl rfl ?_
  refine ev_dup rfl rfl rfl ?_
  refine ev_getI rfl rfl fl_X10_186 rfl rfl rfl ?_
  try simp (disch := omega) only [ev_rd1, ev_rd2, ev_rd3, ev_rc1, k_keep_ne]
  refine ev_iconst (v := 1) rfl rfl (by decide) ?_
  refine ev_iadd rfl rfl ?_
  refine ev_putI rfl rfl fl_X10_186 rfl rfl rfl rfl rfl ?_
  refine ev_iinc (y := (-8)) rfl rfl rfl (by decide) rfl rfl ?_
  dsimp only [List.set]
  refine ev_goto rfl rfl ?_
  refine ev_iload_n rfl rfl rfl ?_
  refine ev_if_lt rfl rfl (fun z_ => absurd z_ (by decide)) (fun c_20bb => ?_)
  refine ev_aload_n rfl rfl rfl ?_
  refine ev_getR rfl rfl fl_X10_48 rfl rfl rfl rfl ?_
  refine ev_aload_n rfl rfl rfl ?_
  refine ev_getI rfl rfl fl_X10_186 rfl rfl rfl ?_
  try simp (disch := omega) only [ev_rd1, ev_rd2, ev_rd3, ev_rc1, k_keep_ne]
  refine ev_lload_n rfl rfl rfl ?_
  refine ev_iload_n rfl rfl rfl ?_
  refine ev_lshr rfl rfl ?_
  refine ev_ldc2 rfl rfl kc_X10_189 ?_
  refine ev_land rfl rfl ?_
  refine ev_l2i rfl rfl ?_
  refine ev_iast rfl rfl rfl rfl (by rw [hp]; unfold vp_in; decide) rfl ?_
  refine ev_aload_n rfl rfl rfl ?_
  refine ev_dup rfl rfl rfl ?_
  refine ev_getI rfl rfl fl_X10_186 rfl rfl rfl ?_
  try simp (disch := omega) only [ev_rd1, ev_rd2, ev_rd3, ev_rc1, k_keep_ne]
  refine ev_iconst (v := 1) rfl rfl (by decide) ?_
  refine ev_iadd rfl rfl ?_
  refine ev_putI rfl rfl fl_X10_186 rfl rfl rfl rfl rfl ?_
  refine ev_iinc (y := (-8)) rfl rfl rfl (by decide) rfl rfl ?_
  dsimp only [List.set]
  refine ev_goto rfl rfl ?_
  refine ev_iload_n rfl rfl rfl ?_
  refine ev_if_lt rfl rfl (fun z_ => absurd z_ (by decide)) (fun c_20bbb => ?_)
  refine ev_aload_n rfl rfl rfl ?_
  refine ev_getR rfl rfl fl_X10_48 rfl rfl rfl rfl ?_
  refine ev_aload_n rfl rfl rfl ?_
  refine ev_getI rfl rfl fl_X10_186 rfl rfl rfl ?_
  try simp (disch := omega) only [ev_rd1, ev_rd2, ev_rd3, ev_rc1, k_keep_ne]
  refine ev_lload_n rfl rfl rfl ?_
  refine ev_iload_n rfl rfl rfl ?_
  refine ev_lshr rfl rfl ?_
  refine ev_ldc2 rfl rfl kc_X10_189 ?_
  refine ev_land rfl rfl ?_
  refine ev_l2i rfl rfl ?_
  refine ev_iast rfl rfl rfl rfl (by rw [hp]; unfold vp_in; decide) rfl ?_
  refine ev_aload_n rfl rfl rfl ?_
  refine ev_dup rfl rfl rfl ?_
  refine ev_getI rfl rfl fl_X10_186 rfl rfl rfl ?_
  try simp (disch := omega) only [ev_rd1, ev_rd2, ev_rd3, ev_rc1, k_keep_ne]
  refine ev_iconst (v := 1) rfl rfl (by decide) ?_
  refine ev_iadd rfl rfl ?_
  refine ev_putI rfl rfl fl_X10_186 rfl rfl rfl rfl rfl ?_
  refine ev_iinc (y := (-8)) rfl rfl rfl (by decide) rfl rfl ?_
  dsimp only [List.set]
  refine ev_goto rfl rfl ?_
  refine ev_iload_n rfl rfl rfl ?_
  refine ev_if_lt rfl rfl (fun z_ => absurd z_ (by decide)) (fun c_20bbbb => ?_)
  refine ev_aload_n rfl rfl rfl ?_
  refine ev_getR rfl rfl fl_X10_48 rfl rfl rfl rfl ?_
  refine ev_aload_n rfl rfl rfl ?_
  refine ev_getI rfl rfl fl_X10_186 rfl rfl rfl ?_
  try simp (disch := omega) only [ev_rd1, ev_rd2, ev_rd3, ev_rc1, k_keep_ne]
  refine ev_lload_n rfl rfl rfl ?_
  refine ev_iload_n rfl rfl rfl ?_
  refine ev_lshr rfl rfl ?_
  refine ev_ldc2 rfl rfl kc_X10_189 ?_
  refine ev_land rfl rfl ?_
  refine ev_l2i rfl rfl ?_
  refine ev_iast rfl rfl rfl rfl (by rw [hp]; unfold vp_in; decide) rfl ?_
  refine ev_aload_n rfl rfl rfl ?_
  refine ev_dup rfl rfl rfl ?_
  refine ev_getI rfl rfl fl_X10_186 rfl rfl rfl ?_
  try simp (disch := omega) only [ev_rd1, ev_rd2, ev_rd3, ev_rc1, k_keep_ne]
  refine ev_iconst (v := 1) rfl rfl (by decide) ?_
  refine ev_iadd rfl rfl ?_
  refine ev_putI rfl rfl fl_X10_186 rfl rfl rfl rfl rfl ?_
  refine ev_iinc (y := (-8)) rfl rfl rfl (by decide) rfl rfl ?_
  dsimp only [List.set]
  refine ev_goto rfl rfl ?_
  refine ev_iload_n rfl rfl rfl ?_
  refine ev_if_lt rfl rfl (fun z_ => absurd z_ (by decide)) (fun c_20bbbbb => ?_)
  refine ev_aload_n rfl rfl rfl ?_
  refine ev_getR rfl rfl fl_X10_48 rfl rfl rfl rfl ?_
  refine ev_aload_n rfl rfl rfl ?_
  refine ev_getI rfl rfl fl_X10_186 rfl rfl rfl ?_
  try simp (disch := omega) only [ev_rd1, ev_rd2, ev_rd3, ev_rc1, k_keep_ne]
  refine ev_lload_n rfl rfl rfl ?_
  refine ev_iload_n rfl rfl rfl ?_
  refine ev_lshr rfl rfl ?_
  refine ev_ldc2 rfl rfl kc_X10_189 ?_
  refine ev_land rfl rfl ?_
  refine ev_l2i rfl rfl ?_
  refine ev_iast rfl rfl rfl rfl (by rw [hp]; unfold vp_in; decide) rfl ?_
  refine ev_aload_n rfl rfl rfl ?_
  refine ev_dup rfl rfl rfl ?_
  refine ev_getI rfl rfl fl_X10_186 rfl rfl rfl ?_
  try simp (disch := omega) only [ev_rd1, ev_rd2, ev_rd3, ev_rc1, k_keep_ne]
  refine ev_iconst (v := 1) rfl rfl (by decide) ?_
  refine ev_iadd rfl rfl ?_
  refine ev_putI rfl rfl fl_X10_186 rfl rfl rfl rfl rfl ?_
  refine ev_iinc (y := (-8)) rfl rfl rfl (by decide) rfl rfl ?_
  dsimp only [List.set]
  refine ev_goto rfl rfl ?_
  refine ev_iload_n rfl rfl rfl ?_
  refine ev_if_lt rfl rfl (fun z_ => absurd z_ (by decide)) (fun c_20bbbbbb => ?_)
  refine ev_aload_n rfl rfl rfl ?_
  refine ev_getR rfl rfl fl_X10_48 rfl rfl rfl rfl ?_
  refine ev_aload_n rfl rfl rfl ?_
  refine ev_getI rfl rfl fl_X10_186 rfl rfl rfl ?_
  try simp (disch := omega) only [ev_rd1, ev_rd2, ev_rd3, ev_rc1, k_keep_ne]
  refine ev_lload_n rfl rfl rfl ?_
  refine ev_iload_n rfl rfl rfl ?_
  refine ev_lshr rfl rfl ?_
  refine ev_ldc2 rfl rfl kc_X10_189 ?_
  refine ev_land rfl rfl ?_
  refine ev_l2i rfl rfl ?_
  refine ev_iast rfl rfl rfl rfl (by rw [hp]; unfold vp_in; decide) rfl ?_
  refine ev_aload_n rfl rfl rfl ?_
  refine ev_dup rfl rfl rfl ?_
  refine ev_getI rfl rfl fl_X10_186 rfl rfl rfl ?_
  try simp (disch := omega) only [ev_rd1, ev_rd2, ev_rd3, ev_rc1, k_keep_ne]
  refine ev_iconst (v := 1) rfl rfl (by decide) ?_
  refine ev_iadd rfl rfl ?_
  refine ev_putI rfl rfl fl_X10_186 rfl rfl rfl rfl rfl ?_
  refine ev_iinc (y := (-8)) rfl rfl rfl (by decide) rfl rfl ?_
  dsimp only [List.set]
  refine ev_goto rfl rfl ?_
  refine ev_iload_n rfl rfl rfl ?_
  refine ev_if_lt rfl rfl (fun z_ => absurd z_ (by decide)) (fun c_20bbbbbbb => ?_)
  refine ev_aload_n rfl rfl rfl ?_
  refine ev_getR rfl rfl fl_X10_48 rfl rfl rfl rfl ?_
  refine ev_aload_n rfl rfl rfl ?_
  refine ev_getI rfl rfl fl_X10_186 rfl rfl rfl ?_
  try simp (disch := omega) only [ev_rd1, ev_rd2, ev_rd3, ev_rc1, k_keep_ne]
  refine ev_lload_n rfl rfl rfl ?_
  refine ev_iload_n rfl rfl rfl ?_
  refine ev_lshr rfl rfl ?_
  refine ev_ldc2 rfl rfl kc_X10_189 ?_
  refine ev_land rfl rfl ?_
  refine ev_l2i rfl rfl ?_
  refine ev_iast rfl rfl rfl rfl (by rw [hp]; unfold vp_in; decide) rfl ?_
  refine ev_aload_n rfl rfl rfl ?_
  refine ev_dup rfl rfl rfl ?_
  refine ev_getI rfl rfl fl_X10_186 rfl rfl rfl ?_
  try simp (disch := omega) only [ev_rd1, ev_rd2, ev_rd3, ev_rc1, k_keep_ne]
  refine ev_iconst (v := 1) rfl rfl (by decide) ?_
  refine ev_iadd rfl rfl ?_
  refine ev_putI rfl rfl fl_X10_186 rfl rfl rfl rfl rfl ?_
  refine ev_iinc (y := (-8)) rfl rfl rfl (by decide) rfl rfl ?_
  dsimp only [List.set]
  refine ev_goto rfl rfl ?_
  refine ev_iload_n rfl rfl rfl ?_
  refine ev_if_lt rfl rfl (fun c_20bbbbbbbb => ?_) (fun z_ => absurd (by decide) z_)
  refine ev_aload_n rfl rfl rfl ?_
  refine ev_getI rfl rfl fl_X10_186 rfl rfl rfl ?_
  try simp (disch := omega) only [ev_rd1, ev_rd2, ev_rd3, ev_rc1, k_keep_ne]
  exact ev_iret rfl rfl rfl (⟨congrArg (fun z => some (Value.int z)) (by rw [hp]; decide), rfl⟩)
