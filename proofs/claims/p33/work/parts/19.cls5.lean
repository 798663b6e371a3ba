theorem z_hasv {w x : Int32} {m N : Nat} (hx : x = nI m) (hm : m ≤ N) (hN : N < 2 ^ 31) (h : ¬ z_has w x = 0) : vp_in w N := by
  subst hx
  obtain ⟨k, -, -, hv⟩ := z_has_in h hm hN
  exact hv
theorem z_hask {w x : Int32} {m N : Nat} (hx : x = nI m) (hm : m ≤ N) (hN : N < 2 ^ 31) (h : ¬ z_has w x = 0) : ∃ k, k < m ∧ w = nI k := by
  subst hx
  obtain ⟨k, h1, h2, -⟩ := z_has_in h hm hN
  exact ⟨k, h1, h2⟩
def r_stem (h : Hp) (w v : Int32) : Int32 := if z_has w (h 4 7) = 0 then -10000 else if z_wi v (-100) 100 = 0 then -10000 else if h 8 w.toNatClampNeg = 0 then h 9 w.toNatClampNeg else -10002
def k_stem (h : Hp) (n : Nat) (w v : Int32) : Hp := if z_has w (h 4 7) = 0 then h else if z_wi v (-100) 100 = 0 then h else if h 8 w.toNatClampNeg = 0 then ev_set (k_keep h n) 9 w.toNatClampNeg v else h
def r_crack (h : Hp) (w v : Int32) : Int32 := if z_has w (h 4 7) = 0 then -10000 else if z_wi v (-200) 200 = 0 then -10000 else h 10 w.toNatClampNeg
def k_crack (h : Hp) (n : Nat) (w v : Int32) : Hp := if z_has w (h 4 7) = 0 then h else if z_wi v (-200) 200 = 0 then h else ev_set (k_keep h n) 10 w.toNatClampNeg v
def r_leak (h : Hp) (w : Int32) : Int32 := if z_has w (h 4 7) = 0 then -1 else h 4 6 >>> (w &&& 31) &&& 1
def k_leak (h : Hp) (n : Nat) (w q : Int32) : Hp := if z_has w (h 4 7) = 0 then h else if q = 0 then ev_set (k_keep h n) 4 6 (h 4 6 &&& (1 <<< (w &&& 31) ^^^ (-1))) else ev_set (k_keep h n) 4 6 (h 4 6 ||| 1 <<< (w &&& 31))
def r_beat (h : Hp) (n m : Nat) (c : Int32) : Int32 := if z_hasAll c (h 4 7) = 0 then -1 else if s_drawn h c (h 4 6) m ≤ h 2 1 then s_stray (k_keep h n) c (h 2 0) m else -5
def k_beat (h : Hp) (n m : Nat) (c : Int32) : Hp := if z_hasAll c (h 4 7) = 0 then h else if s_drawn h c (h 4 6) m ≤ h 2 1 then z_pass (k_keep h n) 2 (s_drawn h c (h 4 6) m) else h
def r_tuneAll (h : Hp) (n m : Nat) (p : Int32) : Int32 := if z_wi p 0 200 = 0 then -1 else h 4 7 - s_exact (k_near (k_keep h n) p m) p m
def k_tuneAll (h : Hp) (n m : Nat) (p : Int32) : Hp := if z_wi p 0 200 = 0 then h else k_near (k_keep h n) p m
def r_sheet (k l n : Int32) : Int32 := if z_has k 4 = 0 then -1 else if z_wi l 0 2 = 0 then -1 else if n ≤ 60 then (if 0 ≤ n then 1 else -14) else -1
def k_sheet (h : Hp) (k l n : Int32) : Hp := if z_has k 4 = 0 then h else if z_wi l 0 2 = 0 then h else if n ≤ 60 then (if 0 ≤ n then k_renew h k.toNatClampNeg l n else h) else h
def r_lay (h : Hp) (k i : Int32) : Int32 := if z_has k 4 = 0 then -1 else if z_noth (h 62 k.toNatClampNeg) = 0 then (if z_has i (h 62 k.toNatClampNeg) = 0 then -12 else 1) else -11
def k_lay (h : Hp) (k i v : Int32) : Hp := if z_has k 4 = 0 then h else if z_noth (h 62 k.toNatClampNeg) = 0 then (if z_has i (h 62 k.toNatClampNeg) = 0 then h else ev_set h (57 + k.toNatClampNeg) i.toNatClampNeg (z_cut (h 61 k.toNatClampNeg) v)) else h
theorem z_size {x i : Int32} (hs : ∃ z, z ≤ 60 ∧ (x = -1 ∨ x = nI z)) (h1 : z_noth x = 0) (h2 : ¬ z_has i x = 0) : vp_in i 60 := by
  obtain ⟨z, hz, rfl | hx⟩ := hs
  · exact absurd h1 (by decide)
  · exact z_hasv hx hz (by decide) h2

set_option maxRecDepth 100000 in
set_option maxHeartbeats 4000000 in
theorem x_stem (L : Nat) (b : Bool) (h : Hp) (m : Nat) (hm0 : m ≤ 12) (hm : h 4 7 = nI m) (n : Nat) (hn : n < 10) (hx : h 11 1 = nI n) (w v : Int32) : EvD mi_X9_stem [.ref 1, .int w, .int v] (G0 L b) h (r_stem h w v) (k_stem h n w v) := by
  refine EvD.of (lo := [some (.ref 1), some (.int w), some (.int v), none]) pf_X9_stem ok_X9_stem rfl rfl ?_
  refine ev_aload_n rfl rfl rfl ?_
  refine ev_getR rfl rfl fl_X9_22 rfl rfl rfl rfl ?_
  refine ev_iload_n rfl rfl rfl ?_
  refine ev_V1D rfl rfl lk_X9_126 vt_X8_has rfl rfl rfl rfl rfl (c_X8_has _ _ _ _) ?_
  refine ev_if_eq rfl rfl (fun c_8 => ?_) (fun c_8 => ?_)
  · refine ev_sipush (v := (-10000)) rfl rfl (by decide) ?_
    exact ev_iret rfl rfl rfl (⟨congrArg (fun z => some (Value.int z)) (by simp only [r_stem, if_pos c_8]), rfl, by simp only [k_stem, if_pos c_8]⟩)
  · refine ev_iload_n rfl rfl rfl ?_
    refine ev_bipush (v := (-100)) rfl rfl (by decide) ?_
    refine ev_bipush (v := 100) rfl rfl (by decide) ?_
    refine ev_S3D rfl rfl lk_X9_75 st_X9_isWithin rfl rfl (c_isWithin _ _ _ _ _) ?_
    refine ev_if_ne rfl rfl (fun c_19 => ?_) (fun c_19 => ?_)
    · have hv : vp_in w 12 := z_hasv hm hm0 (by decide) c_8
      refine ev_aload_n rfl rfl rfl ?_
      refine ev_getR rfl rfl fl_X9_22 rfl rfl rfl rfl ?_
      refine ev_getR rfl rfl fl_X9_139 rfl rfl rfl rfl ?_
      refine ev_iload_n rfl rfl rfl ?_
      refine ev_zald rfl rfl rfl hv rfl ?_
      try simp (disch := omega) only [ev_rd1, ev_rd2, ev_rd3, ev_rc1, k_keep_ne]
      refine ev_if_eq rfl rfl (fun c_35 => ?_) (fun c_35 => ?_)
      · refine ev_aload_n rfl rfl rfl ?_
        refine ev_getR rfl rfl fl_X9_29 rfl rfl rfl rfl ?_
        refine ev_aload_n rfl rfl rfl ?_
        refine ev_getR rfl rfl fl_X9_10 rfl rfl rfl rfl ?_
        refine ev_aload_n rfl rfl rfl ?_
        refine ev_getR rfl rfl fl_X9_22 rfl rfl rfl rfl ?_
        refine ev_V2U rfl rfl lk_X9_79 vt_X0_keep rfl rfl rfl rfl rfl (c_keep _ _ _ n hn hx) ?_
        refine ev_aload_n rfl rfl rfl ?_
        refine ev_getR rfl rfl fl_X9_22 rfl rfl rfl rfl ?_
        refine ev_getR rfl rfl fl_X9_143 rfl rfl rfl rfl ?_
        refine ev_iload_n rfl rfl rfl ?_
        refine ev_iald rfl rfl rfl hv rfl ?_
        try simp (disch := omega) only [ev_rd1, ev_rd2, ev_rd3, ev_rc1, k_keep_ne]
        refine ev_istore_n rfl rfl rfl rfl ?_
        dsimp only [List.set]
        refine ev_aload_n rfl rfl rfl ?_
        refine ev_getR rfl rfl fl_X9_22 rfl rfl rfl rfl ?_
        refine ev_getR rfl rfl fl_X9_143 rfl rfl rfl rfl ?_
        refine ev_iload_n rfl rfl rfl ?_
        refine ev_iload_n rfl rfl rfl ?_
        refine ev_iast rfl rfl rfl rfl hv rfl ?_
        refine ev_iload_n rfl rfl rfl ?_
        exact ev_iret rfl rfl rfl (⟨congrArg (fun z => some (Value.int z)) (by simp only [r_stem, if_neg c_8, if_neg c_19, if_pos c_35]), rfl, by simp only [k_stem, if_neg c_8, if_neg c_19, if_pos c_35]⟩)
      · refine ev_sipush (v := (-10002)) rfl rfl (by decide) ?_
        exact ev_iret rfl rfl rfl (⟨congrArg (fun z => some (Value.int z)) (by simp only [r_stem, if_neg c_8, if_neg c_19, if_neg c_35]), rfl, by simp only [k_stem, if_neg c_8, if_neg c_19, if_neg c_35]⟩)
    · refine ev_sipush (v := (-10000)) rfl rfl (by decide) ?_
      exact ev_iret rfl rfl rfl (⟨congrArg (fun z => some (Value.int z)) (by simp only [r_stem, if_neg c_8, if_pos c_19]), rfl, by simp only [k_stem, if_neg c_8, if_pos c_19]⟩)

set_option maxRecDepth 100000 in
set_option maxHeartbeats 4000000 in
theorem x_crack (L : Nat) (b : Bool) (h : Hp) (m : Nat) (hm0 : m ≤ 12) (hm : h 4 7 = nI m) (n : Nat) (hn : n < 10) (hx : h 11 1 = nI n) (w v : Int32) : EvD mi_X9_crack [.ref 1, .int w, .int v] (G0 L b) h (r_crack h w v) (k_crack h n w v) := by
  refine EvD.of (lo := [some (.ref 1), some (.int w), some (.int v), none]) pf_X9_crack ok_X9_crack rfl rfl ?_
  refine ev_aload_n rfl rfl rfl ?_
  refine ev_getR rfl rfl fl_X9_22 rfl rfl rfl rfl ?_
  refine ev_iload_n rfl rfl rfl ?_
  refine ev_V1D rfl rfl lk_X9_126 vt_X8_has rfl rfl rfl rfl rfl (c_X8_has _ _ _ _) ?_
  refine ev_if_eq rfl rfl (fun c_8 => ?_) (fun c_8 => ?_)
  · refine ev_sipush (v := (-10000)) rfl rfl (by decide) ?_
    exact ev_iret rfl rfl rfl (⟨congrArg (fun z => some (Value.int z)) (by simp only [r_crack, if_pos c_8]), rfl, by simp only [k_crack, if_pos c_8]⟩)
  · refine ev_iload_n rfl rfl rfl ?_
    refine ev_sipush (v := (-200)) rfl rfl (by decide) ?_
    refine ev_sipush (v := 200) rfl rfl (by decide) ?_
    refine ev_S3D rfl rfl lk_X9_75 st_X9_isWithin rfl rfl (c_isWithin _ _ _ _ _) ?_
    refine ev_if_ne rfl rfl (fun c_21 => ?_) (fun c_21 => ?_)
    · have hv : vp_in w 12 := z_hasv hm hm0 (by decide) c_8
      refine ev_aload_n rfl rfl rfl ?_
      refine ev_getR rfl rfl fl_X9_29 rfl rfl rfl rfl ?_
      refine ev_aload_n rfl rfl rfl ?_
      refine ev_getR rfl rfl fl_X9_10 rfl rfl rfl rfl ?_
      refine ev_aload_n rfl rfl rfl ?_
      refine ev_getR rfl rfl fl_X9_22 rfl rfl rfl rfl ?_
      refine ev_V2U rfl rfl lk_X9_79 vt_X0_keep rfl rfl rfl rfl rfl (c_keep _ _ _ n hn hx) ?_
      refine ev_aload_n rfl rfl rfl ?_
      refine ev_getR rfl rfl fl_X9_22 rfl rfl rfl rfl ?_
      refine ev_getR rfl rfl fl_X9_146 rfl rfl rfl rfl ?_
      refine ev_iload_n rfl rfl rfl ?_
      refine ev_iald rfl rfl rfl hv rfl ?_
      try simp (disch := omega) only [ev_rd1, ev_rd2, ev_rd3, ev_rc1, k_keep_ne]
      refine ev_istore_n rfl rfl rfl rfl ?_
      dsimp only [List.set]
      refine ev_aload_n rfl rfl rfl ?_
      refine ev_getR rfl rfl fl_X9_22 rfl rfl rfl rfl ?_
      refine ev_getR rfl rfl fl_X9_146 rfl rfl rfl rfl ?_
      refine ev_iload_n rfl rfl rfl ?_
      refine ev_iload_n rfl rfl rfl ?_
      refine ev_iast rfl rfl rfl rfl hv rfl ?_
      refine ev_iload_n rfl rfl rfl ?_
      exact ev_iret rfl rfl rfl (⟨congrArg (fun z => some (Value.int z)) (by simp only [r_crack, if_neg c_8, if_neg c_21]), rfl, by simp only [k_crack, if_neg c_8, if_neg c_21]⟩)
    · refine ev_sipush (v := (-10000)) rfl rfl (by decide) ?_
      exact ev_iret rfl rfl rfl (⟨congrArg (fun z => some (Value.int z)) (by simp only [r_crack, if_neg c_8, if_pos c_21]), rfl, by simp only [k_crack, if_neg c_8, if_pos c_21]⟩)

set_option maxRecDepth 100000 in
set_option maxHeartbeats 4000000 in
theorem x_leak (L : Nat) (b : Bool) (h : Hp) (m : Nat) (hm0 : m ≤ 12) (hm : h 4 7 = nI m) (n : Nat) (hn : n < 10) (hx : h 11 1 = nI n) (w q : Int32) : EvD mi_X9_leak [.ref 1, .int w, .int q] (G0 L b) h (r_leak h w) (k_leak h n w q) := by
  refine EvD.of (lo := [some (.ref 1), some (.int w), some (.int q), none]) pf_X9_leak ok_X9_leak rfl rfl ?_
  refine ev_aload_n rfl rfl rfl ?_
  refine ev_getR rfl rfl fl_X9_22 rfl rfl rfl rfl ?_
  refine ev_iload_n rfl rfl rfl ?_
  refine ev_V1D rfl rfl lk_X9_126 vt_X8_has rfl rfl rfl rfl rfl (c_X8_has _ _ _ _) ?_
  refine ev_if_ne rfl rfl (fun c_8 => ?_) (fun c_8 => ?_)
  · refine ev_aload_n rfl rfl rfl ?_
    refine ev_getR rfl rfl fl_X9_29 rfl rfl rfl rfl ?_
    refine ev_aload_n rfl rfl rfl ?_
    refine ev_getR rfl rfl fl_X9_10 rfl rfl rfl rfl ?_
    refine ev_aload_n rfl rfl rfl ?_
    refine ev_getR rfl rfl fl_X9_22 rfl rfl rfl rfl ?_
    refine ev_V2U rfl rfl lk_X9_79 vt_X0_keep rfl rfl rfl rfl rfl (c_keep _ _ _ n hn hx) ?_
    refine ev_aload_n rfl rfl rfl ?_
    refine ev_getR rfl rfl fl_X9_22 rfl rfl rfl rfl ?_
    refine ev_getI rfl rfl fl_X9_105 rfl rfl rfl ?_
    try simp (disch := omega) only [ev_rd1, ev_rd2, ev_rd3, ev_rc1, k_keep_ne]
    refine ev_iload_n rfl rfl rfl ?_
    refine ev_ishr rfl rfl ?_
    refine ev_iconst (v := 1) rfl rfl (by decide) ?_
    refine ev_iand rfl rfl ?_
    refine ev_istore_n rfl rfl rfl rfl ?_
    dsimp only [List.set]
    refine ev_aload_n rfl rfl rfl ?_
    refine ev_getR rfl rfl fl_X9_22 rfl rfl rfl rfl ?_
    refine ev_iload_n rfl rfl rfl ?_
    refine ev_if_eq rfl rfl (fun c_45 => ?_) (fun c_45 => ?_)
    · refine ev_aload_n rfl rfl rfl ?_
      refine ev_getR rfl rfl fl_X9_22 rfl rfl rfl rfl ?_
      refine ev_getI rfl rfl fl_X9_105 rfl rfl rfl ?_
      try simp (disch := omega) only [ev_rd1, ev_rd2, ev_rd3, ev_rc1, k_keep_ne]
      refine ev_iconst (v := 1) rfl rfl (by decide) ?_
      refine ev_iload_n rfl rfl rfl ?_
      refine ev_ishl rfl rfl ?_
      refine ev_iconst (v := (-1)) rfl rfl (by decide) ?_
      refine ev_ixor rfl rfl ?_
      refine ev_iand rfl rfl ?_
      refine ev_putI rfl rfl fl_X9_105 rfl rfl rfl rfl rfl ?_
      refine ev_iload_n rfl rfl rfl ?_
      exact ev_iret rfl rfl rfl (⟨congrArg (fun z => some (Value.int z)) (by simp only [r_leak, if_neg c_8, if_pos c_45]), rfl, by simp only [k_leak, if_neg c_8, if_pos c_45]⟩)
    · refine ev_aload_n rfl rfl rfl ?_
      refine ev_getR rfl rfl fl_X9_22 rfl rfl rfl rfl ?_
      refine ev_getI rfl rfl fl_X9_105 rfl rfl rfl ?_
      try simp (disch := omega) only [ev_rd1, ev_rd2, ev_rd3, ev_rc1, k_keep_ne]
      refine ev_iconst (v := 1) rfl rfl (by decide) ?_
      refine ev_iload_n rfl rfl rfl ?_
      refine ev_ishl rfl rfl ?_
      refine ev_ior rfl rfl ?_
      refine ev_goto rfl rfl ?_
      refine ev_putI rfl rfl fl_X9_105 rfl rfl rfl rfl rfl ?_
      refine ev_iload_n rfl rfl rfl ?_
      exact ev_iret rfl rfl rfl (⟨congrArg (fun z => some (Value.int z)) (by simp only [r_leak, if_neg c_8, if_neg c_45]), rfl, by simp only [k_leak, if_neg c_8, if_neg c_45]⟩)
  · refine ev_iconst (v := (-1)) rfl rfl (by decide) ?_
    exact ev_iret rfl rfl rfl (⟨congrArg (fun z => some (Value.int z)) (by simp only [r_leak, if_pos c_8]), rfl, by simp only [k_leak, if_pos c_8]⟩)

set_option maxRecDepth 100000 in
set_option maxHeartbeats 4000000 in
theorem x_beat (L : Nat) (b : Bool) (h : Hp) (m : Nat) (hm0 : m ≤ 12) (hm : h 4 7 = nI m) (n : Nat) (hn : n < 10) (hx : h 11 1 = nI n) (c : Int32) : EvD mi_X9_beat [.ref 1, .int c] (G0 L b) h (r_beat h n m c) (k_beat h n m c) := by
  refine EvD.of (lo := [some (.ref 1), some (.int c), none, none]) pf_X9_beat ok_X9_beat rfl rfl ?_
  refine ev_aload_n rfl rfl rfl ?_
  refine ev_getR rfl rfl fl_X9_22 rfl rfl rfl rfl ?_
  refine ev_iload_n rfl rfl rfl ?_
  refine ev_V1D rfl rfl lk_X9_111 vt_X8_hasAll rfl rfl rfl rfl rfl (c_hasAll _ _ _ _) ?_
  refine ev_if_ne rfl rfl (fun c_8 => ?_) (fun c_8 => ?_)
  · refine ev_aload_n rfl rfl rfl ?_
    refine ev_getR rfl rfl fl_X9_22 rfl rfl rfl rfl ?_
    refine ev_iload_n rfl rfl rfl ?_
    refine ev_aload_n rfl rfl rfl ?_
    refine ev_getR rfl rfl fl_X9_22 rfl rfl rfl rfl ?_
    refine ev_getI rfl rfl fl_X9_105 rfl rfl rfl ?_
    try simp (disch := omega) only [ev_rd1, ev_rd2, ev_rd3, ev_rc1, k_keep_ne]
    refine ev_V2D rfl rfl lk_X9_108 vt_X8_drawnBy rfl rfl rfl rfl rfl (c_drawnBy _ _ _ m hm0 hm _ _) ?_
    refine ev_istore_n rfl rfl rfl rfl ?_
    dsimp only [List.set]
    refine ev_iload_n rfl rfl rfl ?_
    refine ev_aload_n rfl rfl rfl ?_
    refine ev_getR rfl rfl fl_X9_10 rfl rfl rfl rfl ?_
    refine ev_getI rfl rfl fl_X9_87 rfl rfl rfl ?_
    try simp (disch := omega) only [ev_rd1, ev_rd2, ev_rd3, ev_rc1, k_keep_ne]
    refine ev_icmp_le rfl rfl (fun c_37 => ?_) (fun c_37 => ?_)
    · refine ev_aload_n rfl rfl rfl ?_
      refine ev_getR rfl rfl fl_X9_29 rfl rfl rfl rfl ?_
      refine ev_aload_n rfl rfl rfl ?_
      refine ev_getR rfl rfl fl_X9_10 rfl rfl rfl rfl ?_
      refine ev_aload_n rfl rfl rfl ?_
      refine ev_getR rfl rfl fl_X9_22 rfl rfl rfl rfl ?_
      refine ev_V2U rfl rfl lk_X9_79 vt_X0_keep rfl rfl rfl rfl rfl (c_keep _ _ _ n hn hx) ?_
      refine ev_aload_n rfl rfl rfl ?_
      refine ev_getR rfl rfl fl_X9_22 rfl rfl rfl rfl ?_
      refine ev_iload_n rfl rfl rfl ?_
      refine ev_aload_n rfl rfl rfl ?_
      refine ev_getR rfl rfl fl_X9_10 rfl rfl rfl rfl ?_
      refine ev_getI rfl rfl fl_X9_99 rfl rfl rfl ?_
      try simp (disch := omega) only [ev_rd1, ev_rd2, ev_rd3, ev_rc1, k_keep_ne]
      refine ev_V2D rfl rfl lk_X9_115 vt_X8_strayOf rfl rfl rfl rfl rfl (c_strayOf _ _ _ m hm0 ((k_keep_ne (by omega) (by decide)).trans hm) _ _) ?_
      refine ev_istore_n rfl rfl rfl rfl ?_
      dsimp only [List.set]
      refine ev_aload_n rfl rfl rfl ?_
      refine ev_getR rfl rfl fl_X9_10 rfl rfl rfl rfl ?_
      refine ev_iload_n rfl rfl rfl ?_
      refine ev_V1U rfl rfl lk_X9_118 vt_X1_pass rfl rfl rfl rfl rfl (c_pass _ _ _ rfl rfl _) ?_
      refine ev_iload_n rfl rfl rfl ?_
      exact ev_iret rfl rfl rfl (⟨congrArg (fun z => some (Value.int z)) (by simp only [r_beat, if_neg c_8, if_pos c_37]), rfl, by simp only [k_beat, if_neg c_8, if_pos c_37]⟩)
    · refine ev_bipush (v := (-5)) rfl rfl (by decide) ?_
      exact ev_iret rfl rfl rfl (⟨congrArg (fun z => some (Value.int z)) (by simp only [r_beat, if_neg c_8, if_neg c_37]), rfl, by simp only [k_beat, if_neg c_8, if_neg c_37]⟩)
  · refine ev_iconst (v := (-1)) rfl rfl (by decide) ?_
    exact ev_iret rfl rfl rfl (⟨congrArg (fun z => some (Value.int z)) (by simp only [r_beat, if_pos c_8]), rfl, by simp only [k_beat, if_pos c_8]⟩)

set_option maxRecDepth 100000 in
set_option maxHeartbeats 4000000 in
theorem x_tuneAll (L : Nat) (b : Bool) (h : Hp) (m : Nat) (hm0 : m ≤ 12) (hm : h 4 7 = nI m) (n : Nat) (hn : n < 10) (hx : h 11 1 = nI n) (p : Int32) : EvD mi_X9_tuneAll [.ref 1, .int p] (G0 L b) h (r_tuneAll h n m p) (k_tuneAll h n m p) := by
  refine EvD.of (lo := [some (.ref 1), some (.int p)]) pf_X9_tuneAll ok_X9_tuneAll rfl rfl ?_
  refine ev_iload_n rfl rfl rfl ?_
  refine ev_iconst (v := 0) rfl rfl (by decide) ?_
  refine ev_sipush (v := 200) rfl rfl (by decide) ?_
  refine ev_S3D rfl rfl lk_X9_75 st_X9_isWithin rfl rfl (c_isWithin _ _ _ _ _) ?_
  refine ev_if_ne rfl rfl (fun c_8 => ?_) (fun c_8 => ?_)
  · refine ev_aload_n rfl rfl rfl ?_
    refine ev_getR rfl rfl fl_X9_29 rfl rfl rfl rfl ?_
    refine ev_aload_n rfl rfl rfl ?_
    refine ev_getR rfl rfl fl_X9_10 rfl rfl rfl rfl ?_
    refine ev_aload_n rfl rfl rfl ?_
    refine ev_getR rfl rfl fl_X9_22 rfl rfl rfl rfl ?_
    refine ev_V2U rfl rfl lk_X9_79 vt_X0_keep rfl rfl rfl rfl rfl (c_keep _ _ _ n hn hx) ?_
    refine ev_aload_n rfl rfl rfl ?_
    refine ev_getR rfl rfl fl_X9_22 rfl rfl rfl rfl ?_
    refine ev_iload_n rfl rfl rfl ?_
    refine ev_V1U rfl rfl lk_X9_155 vt_X8_bringNear rfl rfl rfl rfl rfl (c_bringNear _ _ _ m hm0 ((k_keep_ne (by omega) (by decide)).trans hm) _) ?_
    refine ev_aload_n rfl rfl rfl ?_
    refine ev_getR rfl rfl fl_X9_22 rfl rfl rfl rfl ?_
    refine ev_getI rfl rfl fl_X9_158 rfl rfl rfl ?_
    try simp (disch := omega) only [ev_rd1, ev_rd2, ev_rd3, k_near_ne, k_keep_ne]
    refine ev_aload_n rfl rfl rfl ?_
    refine ev_getR rfl rfl fl_X9_22 rfl rfl rfl rfl ?_
    refine ev_iload_n rfl rfl rfl ?_
    refine ev_V1D rfl rfl lk_X9_161 vt_X8_exactAt rfl rfl rfl rfl rfl (c_exactAt _ _ _ m hm0 ((k_near_ne (by decide)).trans ((k_keep_ne (by omega) (by decide)).trans hm)) _) ?_
    refine ev_isub rfl rfl ?_
    exact ev_iret rfl rfl rfl (⟨congrArg (fun z => some (Value.int z)) (by simp only [r_tuneAll, if_neg c_8]), rfl, by simp only [k_tuneAll, if_neg c_8]⟩)
  · refine ev_iconst (v := (-1)) rfl rfl (by decide) ?_
    exact ev_iret rfl rfl rfl (⟨congrArg (fun z => some (Value.int z)) (by simp only [r_tuneAll, if_pos c_8]), rfl, by simp only [k_tuneAll, if_pos c_8]⟩)

set_option maxRecDepth 100000 in
set_option maxHeartbeats 4000000 in
theorem x_undo0 (L : Nat) (b : Bool) (h : Hp) (hh : h 11 2 = 0) : EvD mi_X9_undo [.ref 1] (G0 L b) h (-4) (h) := by
  refine EvD.of (lo := [some (.ref 1)]) pf_X9_undo ok_X9_undo rfl rfl ?_
  refine ev_aload_n rfl rfl rfl ?_
  refine ev_getR rfl rfl fl_X9_29 rfl rfl rfl rfl ?_
  refine ev_aload_n rfl rfl rfl ?_
  refine ev_getR rfl rfl fl_X9_10 rfl rfl rfl rfl ?_
  refine ev_aload_n rfl rfl rfl ?_
  refine ev_getR rfl rfl fl_X9_22 rfl rfl rfl rfl ?_
  refine ev_V2D rfl rfl lk_X9_311 vt_X0_restore rfl rfl rfl rfl rfl (c_restore0 _ _ _ hh) ?_
  refine ev_if_eq rfl rfl (fun c_15 => ?_) (fun z_ => absurd (by decide) z_)
  refine ev_bipush (v := (-4)) rfl rfl (by decide) ?_
  exact ev_iret rfl rfl rfl (⟨rfl, rfl, rfl⟩)

set_option maxRecDepth 100000 in
set_option maxHeartbeats 4000000 in
theorem x_undo1 (L : Nat) (b : Bool) (h : Hp) (n : Nat) (hn : n < 10) (hx : (h 11 1 + 10 - 1) - (h 11 1 + 10 - 1) / 10 * 10 = nI n) (hh : ¬ h 11 2 = 0) : EvD mi_X9_undo [.ref 1] (G0 L b) h (h 11 2 - 1) (k_rest h n) := by
  refine EvD.of (lo := [some (.ref 1)]) pf_X9_undo ok_X9_undo rfl rfl ?_
  refine ev_aload_n rfl rfl rfl ?_
  refine ev_getR rfl rfl fl_X9_29 rfl rfl rfl rfl ?_
  refine ev_aload_n rfl rfl rfl ?_
  refine ev_getR rfl rfl fl_X9_10 rfl rfl rfl rfl ?_
  refine ev_aload_n rfl rfl rfl ?_
  refine ev_getR rfl rfl fl_X9_22 rfl rfl rfl rfl ?_
  refine ev_V2D rfl rfl lk_X9_311 vt_X0_restore rfl rfl rfl rfl rfl (c_restore _ _ _ n hn hx hh) ?_
  refine ev_if_eq rfl rfl (fun z_ => absurd z_ (by decide)) (fun c_15 => ?_)
  refine ev_aload_n rfl rfl rfl ?_
  refine ev_getR rfl rfl fl_X9_29 rfl rfl rfl rfl ?_
  refine ev_getI rfl rfl fl_X9_315 rfl rfl rfl ?_
  refine ev_goto rfl rfl ?_
  exact ev_iret rfl rfl rfl (⟨rfl, rfl, rfl⟩)

set_option maxRecDepth 100000 in
set_option maxHeartbeats 4000000 in
theorem x_sheet (L : Nat) (b : Bool) (h : Hp) (k l n : Int32) : EvD mi_X9_sheet [.ref 1, .int k, .int l, .int n] (G0 L b) h (r_sheet k l n) (k_sheet h k l n) := by
  refine EvD.of (lo := [some (.ref 1), some (.int k), some (.int l), some (.int n)]) pf_X9_sheet ok_X9_sheet rfl rfl ?_
  refine ev_aload_n rfl rfl rfl ?_
  refine ev_getR rfl rfl fl_X9_71 rfl rfl rfl rfl ?_
  refine ev_iload_n rfl rfl rfl ?_
  refine ev_V1D rfl rfl lk_X9_255 vt_X5_has rfl rfl rfl rfl rfl (c_X5_has _ _ _ _) ?_
  refine ev_if_eq rfl rfl (fun c_8 => ?_) (fun c_8 => ?_)
  · refine ev_iconst (v := (-1)) rfl rfl (by decide) ?_
    exact ev_iret rfl rfl rfl (⟨congrArg (fun z => some (Value.int z)) (by simp only [r_sheet, if_pos c_8]), rfl, by simp only [k_sheet, if_pos c_8]⟩)
  · refine ev_aload_n rfl rfl rfl ?_
    refine ev_getR rfl rfl fl_X9_71 rfl rfl rfl rfl ?_
    refine ev_iload_n rfl rfl rfl ?_
    refine ev_V1D rfl rfl lk_X9_256 vt_X5_isLane rfl rfl rfl rfl rfl (c_isLane _ _ _ _) ?_
    refine ev_if_eq rfl rfl (fun c_19 => ?_) (fun c_19 => ?_)
    · refine ev_iconst (v := (-1)) rfl rfl (by decide) ?_
      exact ev_iret rfl rfl rfl (⟨congrArg (fun z => some (Value.int z)) (by simp only [r_sheet, if_neg c_8, if_pos c_19]), rfl, by simp only [k_sheet, if_neg c_8, if_pos c_19]⟩)
    · refine ev_iload_n rfl rfl rfl ?_
      refine ev_bipush (v := 60) rfl rfl (by decide) ?_
      refine ev_icmp_le rfl rfl (fun c_25 => ?_) (fun c_25 => ?_)
      · refine ev_iload_n rfl rfl rfl ?_
        refine ev_if_ge rfl rfl (fun c_31 => ?_) (fun c_31 => ?_)
        · obtain ⟨j, hj, rfl⟩ := z_hask (m := 4) rfl (Nat.le_refl 4) (by decide) c_8
          refine ev_aload_n rfl rfl rfl ?_
          refine ev_getR rfl rfl fl_X9_71 rfl rfl rfl rfl ?_
          refine ev_iload_n rfl rfl rfl ?_
          refine ev_iload_n rfl rfl rfl ?_
          refine ev_iload_n rfl rfl rfl ?_
          refine ev_V3U rfl rfl lk_X9_318 vt_X5_renew rfl rfl rfl rfl rfl (c_renew _ _ _ j hj _ _) ?_
          refine ev_iconst (v := 1) rfl rfl (by decide) ?_
          exact ev_iret rfl rfl rfl (⟨congrArg (fun z => some (Value.int z)) (by simp only [r_sheet, if_neg c_8, if_neg c_19, if_pos c_25, if_pos c_31, nI_clamp (show j < 2 ^ 31 by omega)]), rfl, by simp only [k_sheet, if_neg c_8, if_neg c_19, if_pos c_25, if_pos c_31, nI_clamp (show j < 2 ^ 31 by omega)]⟩)
        · refine ev_bipush (v := (-14)) rfl rfl (by decide) ?_
          exact ev_iret rfl rfl rfl (⟨congrArg (fun z => some (Value.int z)) (by simp only [r_sheet, if_neg c_8, if_neg c_19, if_pos c_25, if_neg c_31]), rfl, by simp only [k_sheet, if_neg c_8, if_neg c_19, if_pos c_25, if_neg c_31]⟩)
      · refine ev_iconst (v := (-1)) rfl rfl (by decide) ?_
        exact ev_iret rfl rfl rfl (⟨congrArg (fun z => some (Value.int z)) (by simp only [r_sheet, if_neg c_8, if_neg c_19, if_neg c_25]), rfl, by simp only [k_sheet, if_neg c_8, if_neg c_19, if_neg c_25]⟩)

set_option maxRecDepth 100000 in
set_option maxHeartbeats 4000000 in
theorem x_lay (L : Nat) (b : Bool) (h : Hp) (hs : ∀ j, j < 4 → ∃ z, z ≤ 60 ∧ (h 62 j = -1 ∨ h 62 j = nI z)) (k i v : Int32) : EvD mi_X9_lay [.ref 1, .int k, .int i, .int v] (G0 L b) h (r_lay h k i) (k_lay h k i v) := by
  refine EvD.of (lo := [some (.ref 1), some (.int k), some (.int i), some (.int v)]) pf_X9_lay ok_X9_lay rfl rfl ?_
  refine ev_aload_n rfl rfl rfl ?_
  refine ev_getR rfl rfl fl_X9_71 rfl rfl rfl rfl ?_
  refine ev_iload_n rfl rfl rfl ?_
  refine ev_V1D rfl rfl lk_X9_255 vt_X5_has rfl rfl rfl rfl rfl (c_X5_has _ _ _ _) ?_
  refine ev_if_ne rfl rfl (fun c_8 => ?_) (fun c_8 => ?_)
  · obtain ⟨j, hj, rfl⟩ := z_hask (m := 4) rfl (Nat.le_refl 4) (by decide) c_8
    have ej := nI_clamp (show j < 2 ^ 31 by omega)
    refine ev_aload_n rfl rfl rfl ?_
    refine ev_getR rfl rfl fl_X9_71 rfl rfl rfl rfl ?_
    refine ev_iload_n rfl rfl rfl ?_
    refine ev_V1D rfl rfl lk_X9_322 vt_X5_isNothing rfl rfl rfl rfl rfl (c_isNothing _ _ _ j hj) ?_
    refine ev_if_eq rfl rfl (fun c_21 => ?_) (fun c_21 => ?_)
    · refine ev_aload_n rfl rfl rfl ?_
      refine ev_getR rfl rfl fl_X9_71 rfl rfl rfl rfl ?_
      refine ev_iload_n rfl rfl rfl ?_
      refine ev_iload_n rfl rfl rfl ?_
      refine ev_V2D rfl rfl lk_X9_325 vt_X5_hasCell rfl rfl rfl rfl rfl (c_hasCell _ _ _ j hj _) ?_
      refine ev_if_ne rfl rfl (fun c_36 => ?_) (fun c_36 => ?_)
      · have hi : vp_in i 60 := z_size (hs j hj) c_21 c_36
        refine ev_aload_n rfl rfl rfl ?_
        refine ev_getR rfl rfl fl_X9_71 rfl rfl rfl rfl ?_
        refine ev_iload_n rfl rfl rfl ?_
        refine ev_iload_n rfl rfl rfl ?_
        refine ev_iload_n rfl rfl rfl ?_
        refine ev_V3U rfl rfl lk_X9_329 vt_X5_put rfl rfl rfl rfl rfl (c_put _ _ _ j hj _ _ hi) ?_
        refine ev_iconst (v := 1) rfl rfl (by decide) ?_
        exact ev_iret rfl rfl rfl (⟨congrArg (fun z => some (Value.int z)) (by simp only [r_lay, if_neg c_8, if_pos c_21, if_neg c_36, ej]), rfl, by simp only [k_lay, if_neg c_8, if_pos c_21, if_neg c_36, ej]⟩)
      · refine ev_bipush (v := (-12)) rfl rfl (by decide) ?_
        exact ev_iret rfl rfl rfl (⟨congrArg (fun z => some (Value.int z)) (by simp only [r_lay, if_neg c_8, if_pos c_21, if_pos c_36, ej]), rfl, by simp only [k_lay, if_neg c_8, if_pos c_21, if_pos c_36, ej]⟩)
    · refine ev_bipush (v := (-11)) rfl rfl (by decide) ?_
      exact ev_iret rfl rfl rfl (⟨congrArg (fun z => some (Value.int z)) (by simp only [r_lay, if_neg c_8, if_neg c_21, ej]), rfl, by simp only [k_lay, if_neg c_8, if_neg c_21, ej]⟩)
  · refine ev_iconst (v := (-1)) rfl rfl (by decide) ?_
    exact ev_iret rfl rfl rfl (⟨congrArg (fun z => some (Value.int z)) (by simp only [r_lay, if_pos c_8]), rfl, by simp only [k_lay, if_pos c_8]⟩)

