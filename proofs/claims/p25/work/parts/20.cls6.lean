def z_us (x y : Int32) : Int32 := (x.toUInt32 >>> (y.toUInt32 &&& Int32.toUInt32 31)).toInt32
def z_b1 (x : Int32) : Int32 := x - (z_us x 1 &&& 1431655765)
def z_b2 (x : Int32) : Int32 := (x &&& 858993459) + (z_us x 2 &&& 858993459)
def z_b3 (x : Int32) : Int32 := x + z_us x 4 &&& 252645135
def z_b4 (x : Int32) : Int32 := x + z_us x 8
def z_b5 (x : Int32) : Int32 := x + z_us x 16
def z_bc (x : Int32) : Int32 := z_b5 (z_b4 (z_b3 (z_b2 (z_b1 x)))) &&& 63
theorem z_bc0 : z_bc 0 = 0 := by decide

set_option maxRecDepth 100000 in
set_option maxHeartbeats 4000000 in
theorem c_bitCount (G : Geo) (h : Hp) (x : Int32) : EvD mi_J6_bitCount_0f7a4 [.int x] G h (z_bc x) (h) := by
  refine EvD.of (lo := [some (.int x)]) pf_J6_bitCount_0f7a4 ok_J6_bitCount_0f7a4 rfl rfl ?_
  refine ev_iload_n rfl rfl rfl ?_
  refine ev_iload_n rfl rfl rfl ?_
  refine ev_iconst (v := 1) rfl rfl (by decide) ?_
  refine ev_iushr rfl rfl ?_
  refine ev_ldcw rfl rfl kc_J6_265 ?_
  refine ev_iand rfl rfl ?_
  refine ev_isub rfl rfl ?_
  refine ev_istore_n rfl rfl rfl rfl ?_
  dsimp only [List.set]
  refine ev_iload_n rfl rfl rfl ?_
  refine ev_ldcw rfl rfl kc_J6_266 ?_
  refine ev_iand rfl rfl ?_
  refine ev_iload_n rfl rfl rfl ?_
  refine ev_iconst (v := 2) rfl rfl (by decide) ?_
  refine ev_iushr rfl rfl ?_
  refine ev_ldcw rfl rfl kc_J6_266 ?_
  refine ev_iand rfl rfl ?_
  refine ev_iadd rfl rfl ?_
  refine ev_istore_n rfl rfl rfl rfl ?_
  dsimp only [List.set]
  refine ev_iload_n rfl rfl rfl ?_
  refine ev_iload_n rfl rfl rfl ?_
  refine ev_iconst (v := 4) rfl rfl (by decide) ?_
  refine ev_iushr rfl rfl ?_
  refine ev_iadd rfl rfl ?_
  refine ev_ldcw rfl rfl kc_J6_267 ?_
  refine ev_iand rfl rfl ?_
  refine ev_istore_n rfl rfl rfl rfl ?_
  dsimp only [List.set]
  refine ev_iload_n rfl rfl rfl ?_
  refine ev_iload_n rfl rfl rfl ?_
  refine ev_bipush (v := 8) rfl rfl (by decide) ?_
  refine ev_iushr rfl rfl ?_
  refine ev_iadd rfl rfl ?_
  refine ev_istore_n rfl rfl rfl rfl ?_
  dsimp only [List.set]
  refine ev_iload_n rfl rfl rfl ?_
  refine ev_iload_n rfl rfl rfl ?_
  refine ev_bipush (v := 16) rfl rfl (by decide) ?_
  refine ev_iushr rfl rfl ?_
  refine ev_iadd rfl rfl ?_
  refine ev_istore_n rfl rfl rfl rfl ?_
  dsimp only [List.set]
  refine ev_iload_n rfl rfl rfl ?_
  refine ev_bipush (v := 63) rfl rfl (by decide) ?_
  refine ev_iand rfl rfl ?_
  exact ev_iret rfl rfl rfl (⟨rfl, rfl, rfl⟩)

def r_count (h : Hp) (m : Nat) (q : Int32) : Int32 := if q = 0 then h 4 7 else if q = 1 then h 28 2 else if q = 2 then h 50 2 else if q = 3 then h 50 5 else if q = 4 then z_bc (h 4 6) else if q = 5 then s_crk h m else if q = 6 then h 11 2 else if q = 7 then h 23 1 else if q = 8 then (if z_noth (h 62 0) = 0 then h 62 0 else -4) else -1

set_option maxRecDepth 100000 in
set_option maxHeartbeats 4000000 in
theorem x_count (L : Nat) (b : Bool) (h : Hp) (m : Nat) (hm0 : m ≤ 12) (hm : h 4 7 = nI m) (q : Int32) : EvD mi_X9_count [.ref 1, .int q] (G0 L b) h (r_count h m q) (h) := by
  refine EvD.of (lo := [some (.ref 1), some (.int q)]) pf_X9_count ok_X9_count rfl rfl ?_
  refine ev_iload_n rfl rfl rfl ?_
  rcases ev_sw q 0 8 with w_ | ⟨w_, w2_⟩
  · have n0_ : ¬ q = 0 := fun e_ => by rw [e_] at w_; exact absurd w_ (by decide)
    have n1_ : ¬ q = 1 := fun e_ => by rw [e_] at w_; exact absurd w_ (by decide)
    have n2_ : ¬ q = 2 := fun e_ => by rw [e_] at w_; exact absurd w_ (by decide)
    have n3_ : ¬ q = 3 := fun e_ => by rw [e_] at w_; exact absurd w_ (by decide)
    have n4_ : ¬ q = 4 := fun e_ => by rw [e_] at w_; exact absurd w_ (by decide)
    have n5_ : ¬ q = 5 := fun e_ => by rw [e_] at w_; exact absurd w_ (by decide)
    have n6_ : ¬ q = 6 := fun e_ => by rw [e_] at w_; exact absurd w_ (by decide)
    have n7_ : ¬ q = 7 := fun e_ => by rw [e_] at w_; exact absurd w_ (by decide)
    have n8_ : ¬ q = 8 := fun e_ => by rw [e_] at w_; exact absurd w_ (by decide)
    refine ev_tabOut 145 rfl w_ (by decide) ?_
    refine ev_iconst (v := (-1)) rfl rfl (by decide) ?_
    exact ev_iret rfl rfl rfl (⟨congrArg (fun z => some (Value.int z)) (by simp only [r_count, if_neg n0_, if_neg n1_, if_neg n2_, if_neg n3_, if_neg n4_, if_neg n5_, if_neg n6_, if_neg n7_, if_neg n8_]), rfl, rfl⟩)
  · have w3_ : q = 0 ∨ q = 1 ∨ q = 2 ∨ q = 3 ∨ q = 4 ∨ q = 5 ∨ q = 6 ∨ q = 7 ∨ q = 8 := by simp only [← Int32.toInt_inj]; have e_ := w_; have e2_ := w2_; simp only [Int32.reduceToInt] at *; omega
    rcases w3_ with e_ | e_ | e_ | e_ | e_ | e_ | e_ | e_ | e_
    · refine ev_tabIn 52 rfl (by rw [e_]; decide) (by rw [e_]; decide) (by rw [e_]; rfl) (by decide) ?_
      refine ev_aload_n rfl rfl rfl ?_
      refine ev_getR rfl rfl fl_X9_22 rfl rfl rfl rfl ?_
      refine ev_getI rfl rfl fl_X9_158 rfl rfl rfl ?_
      exact ev_iret rfl rfl rfl (⟨congrArg (fun z => some (Value.int z)) (by simp only [r_count, if_pos e_]), rfl, rfl⟩)
    · have n0_ : ¬ q = 0 := by rw [e_]; decide
      refine ev_tabIn 60 rfl (by rw [e_]; decide) (by rw [e_]; decide) (by rw [e_]; rfl) (by decide) ?_
      refine ev_aload_n rfl rfl rfl ?_
      refine ev_getR rfl rfl fl_X9_43 rfl rfl rfl rfl ?_
      refine ev_getI rfl rfl fl_X9_176 rfl rfl rfl ?_
      exact ev_iret rfl rfl rfl (⟨congrArg (fun z => some (Value.int z)) (by simp only [r_count, if_neg n0_, if_pos e_]), rfl, rfl⟩)
    · have n0_ : ¬ q = 0 := by rw [e_]; decide
      have n1_ : ¬ q = 1 := by rw [e_]; decide
      refine ev_tabIn 68 rfl (by rw [e_]; decide) (by rw [e_]; decide) (by rw [e_]; rfl) (by decide) ?_
      refine ev_aload_n rfl rfl rfl ?_
      refine ev_getR rfl rfl fl_X9_64 rfl rfl rfl rfl ?_
      refine ev_getI rfl rfl fl_X9_335 rfl rfl rfl ?_
      exact ev_iret rfl rfl rfl (⟨congrArg (fun z => some (Value.int z)) (by simp only [r_count, if_neg n0_, if_neg n1_, if_pos e_]), rfl, rfl⟩)
    · have n0_ : ¬ q = 0 := by rw [e_]; decide
      have n1_ : ¬ q = 1 := by rw [e_]; decide
      have n2_ : ¬ q = 2 := by rw [e_]; decide
      refine ev_tabIn 76 rfl (by rw [e_]; decide) (by rw [e_]; decide) (by rw [e_]; rfl) (by decide) ?_
      refine ev_aload_n rfl rfl rfl ?_
      refine ev_getR rfl rfl fl_X9_64 rfl rfl rfl rfl ?_
      refine ev_getI rfl rfl fl_X9_338 rfl rfl rfl ?_
      exact ev_iret rfl rfl rfl (⟨congrArg (fun z => some (Value.int z)) (by simp only [r_count, if_neg n0_, if_neg n1_, if_neg n2_, if_pos e_]), rfl, rfl⟩)
    · have n0_ : ¬ q = 0 := by rw [e_]; decide
      have n1_ : ¬ q = 1 := by rw [e_]; decide
      have n2_ : ¬ q = 2 := by rw [e_]; decide
      have n3_ : ¬ q = 3 := by rw [e_]; decide
      refine ev_tabIn 84 rfl (by rw [e_]; decide) (by rw [e_]; decide) (by rw [e_]; rfl) (by decide) ?_
      refine ev_aload_n rfl rfl rfl ?_
      refine ev_getR rfl rfl fl_X9_22 rfl rfl rfl rfl ?_
      refine ev_getI rfl rfl fl_X9_105 rfl rfl rfl ?_
      refine ev_S1D rfl rfl lk_X9_341 st_J6_bitCount_0f7a4 rfl rfl (c_bitCount _ _ _) ?_
      exact ev_iret rfl rfl rfl (⟨congrArg (fun z => some (Value.int z)) (by simp only [r_count, if_neg n0_, if_neg n1_, if_neg n2_, if_neg n3_, if_pos e_]), rfl, rfl⟩)
    · have n0_ : ¬ q = 0 := by rw [e_]; decide
      have n1_ : ¬ q = 1 := by rw [e_]; decide
      have n2_ : ¬ q = 2 := by rw [e_]; decide
      have n3_ : ¬ q = 3 := by rw [e_]; decide
      have n4_ : ¬ q = 4 := by rw [e_]; decide
      refine ev_tabIn 95 rfl (by rw [e_]; decide) (by rw [e_]; decide) (by rw [e_]; rfl) (by decide) ?_
      refine ev_aload_n rfl rfl rfl ?_
      refine ev_getR rfl rfl fl_X9_22 rfl rfl rfl rfl ?_
      refine ev_V0D rfl rfl lk_X9_346 vt_X8_cracked rfl rfl rfl rfl rfl (c_cracked _ _ _ m hm0 hm) ?_
      exact ev_iret rfl rfl rfl (⟨congrArg (fun z => some (Value.int z)) (by simp only [r_count, if_neg n0_, if_neg n1_, if_neg n2_, if_neg n3_, if_neg n4_, if_pos e_]), rfl, rfl⟩)
    · have n0_ : ¬ q = 0 := by rw [e_]; decide
      have n1_ : ¬ q = 1 := by rw [e_]; decide
      have n2_ : ¬ q = 2 := by rw [e_]; decide
      have n3_ : ¬ q = 3 := by rw [e_]; decide
      have n4_ : ¬ q = 4 := by rw [e_]; decide
      have n5_ : ¬ q = 5 := by rw [e_]; decide
      refine ev_tabIn 103 rfl (by rw [e_]; decide) (by rw [e_]; decide) (by rw [e_]; rfl) (by decide) ?_
      refine ev_aload_n rfl rfl rfl ?_
      refine ev_getR rfl rfl fl_X9_29 rfl rfl rfl rfl ?_
      refine ev_getI rfl rfl fl_X9_315 rfl rfl rfl ?_
      try simp (disch := omega) only [ev_rd1, ev_rd2, ev_rd3, ev_rc1, k_keep_ne]
      exact ev_iret rfl rfl rfl (⟨congrArg (fun z => some (Value.int z)) (by simp only [r_count, if_neg n0_, if_neg n1_, if_neg n2_, if_neg n3_, if_neg n4_, if_neg n5_, if_pos e_]), rfl, rfl⟩)
    · have n0_ : ¬ q = 0 := by rw [e_]; decide
      have n1_ : ¬ q = 1 := by rw [e_]; decide
      have n2_ : ¬ q = 2 := by rw [e_]; decide
      have n3_ : ¬ q = 3 := by rw [e_]; decide
      have n4_ : ¬ q = 4 := by rw [e_]; decide
      have n5_ : ¬ q = 5 := by rw [e_]; decide
      have n6_ : ¬ q = 6 := by rw [e_]; decide
      refine ev_tabIn 111 rfl (by rw [e_]; decide) (by rw [e_]; decide) (by rw [e_]; rfl) (by decide) ?_
      refine ev_aload_n rfl rfl rfl ?_
      refine ev_getR rfl rfl fl_X9_36 rfl rfl rfl rfl ?_
      refine ev_getI rfl rfl fl_X9_173 rfl rfl rfl ?_
      try simp (disch := omega) only [ev_rd1, ev_rd2, ev_rd3, ev_rc1, k_keep_ne]
      exact ev_iret rfl rfl rfl (⟨congrArg (fun z => some (Value.int z)) (by simp only [r_count, if_neg n0_, if_neg n1_, if_neg n2_, if_neg n3_, if_neg n4_, if_neg n5_, if_neg n6_, if_pos e_]), rfl, rfl⟩)
    · have n0_ : ¬ q = 0 := by rw [e_]; decide
      have n1_ : ¬ q = 1 := by rw [e_]; decide
      have n2_ : ¬ q = 2 := by rw [e_]; decide
      have n3_ : ¬ q = 3 := by rw [e_]; decide
      have n4_ : ¬ q = 4 := by rw [e_]; decide
      have n5_ : ¬ q = 5 := by rw [e_]; decide
      have n6_ : ¬ q = 6 := by rw [e_]; decide
      have n7_ : ¬ q = 7 := by rw [e_]; decide
      refine ev_tabIn 119 rfl (by rw [e_]; decide) (by rw [e_]; decide) (by rw [e_]; rfl) (by decide) ?_
      refine ev_aload_n rfl rfl rfl ?_
      refine ev_getR rfl rfl fl_X9_71 rfl rfl rfl rfl ?_
      refine ev_iconst (v := 0) rfl rfl (by decide) ?_
      refine ev_V1D rfl rfl lk_X9_322 vt_X5_isNothing rfl rfl rfl rfl rfl (c_isNothing _ _ _ 0 (by decide)) ?_
      refine ev_if_eq rfl rfl (fun c_127 => ?_) (fun c_127 => ?_)
      · refine ev_aload_n rfl rfl rfl ?_
        refine ev_getR rfl rfl fl_X9_71 rfl rfl rfl rfl ?_
        refine ev_getR rfl rfl fl_X9_349 rfl rfl rfl rfl ?_
        refine ev_iconst (v := 0) rfl rfl (by decide) ?_
        refine ev_iald (j := 0) rfl rfl rfl (by unfold vp_in; decide) (by decide) ?_
        try simp (disch := omega) only [ev_rd1, ev_rd2, ev_rd3, ev_rc1, k_keep_ne]
        exact ev_iret rfl rfl rfl (⟨congrArg (fun z => some (Value.int z)) (by simp only [r_count, if_neg n0_, if_neg n1_, if_neg n2_, if_neg n3_, if_neg n4_, if_neg n5_, if_neg n6_, if_neg n7_, if_pos e_, if_pos c_127]), rfl, rfl⟩)
      · refine ev_bipush (v := (-4)) rfl rfl (by decide) ?_
        refine ev_goto rfl rfl ?_
        exact ev_iret rfl rfl rfl (⟨congrArg (fun z => some (Value.int z)) (by simp only [r_count, if_neg n0_, if_neg n1_, if_neg n2_, if_neg n3_, if_neg n4_, if_neg n5_, if_neg n6_, if_neg n7_, if_pos e_, if_neg c_127]), rfl, rfl⟩)

set_option maxRecDepth 100000 in
set_option maxHeartbeats 4000000 in
theorem f_holds (L : Nat) (b : Bool) (h : Hp) (hz : h 4 7 = 0) (w d : Int32) : EvD mi_X9_holds [.ref 1, .int w, .int d] (G0 L b) h (-1) (h) := by
  refine EvD.of (lo := [some (.ref 1), some (.int w), some (.int d), none, none]) pf_X9_holds ok_X9_holds rfl rfl ?_
  refine ev_aload_n rfl rfl rfl ?_
  refine ev_getR rfl rfl fl_X9_22 rfl rfl rfl rfl ?_
  refine ev_iload_n rfl rfl rfl ?_
  refine ev_V1D rfl rfl lk_X9_126 vt_X8_has rfl rfl rfl rfl rfl (c_X8_has _ _ _ _) ?_
  refine ev_if_eq rfl rfl (fun c_8 => ?_) (fun z_ => absurd (by rw [hz]; exact z_has0 _) z_)
  refine ev_iconst (v := (-1)) rfl rfl (by decide) ?_
  exact ev_iret rfl rfl rfl (⟨rfl, rfl, rfl⟩)

set_option maxRecDepth 100000 in
set_option maxHeartbeats 4000000 in
theorem f_agree (L : Nat) (b : Bool) (h : Hp) (hz : h 4 7 = 0) (q : Int32) : EvD mi_X9_agree [.ref 1, .int q] (G0 L b) h (if z_wi q 0 2 = 0 then -1 else -4) (h) := by
  refine EvD.of (lo := [some (.ref 1), some (.int q), none, none, none, none]) pf_X9_agree ok_X9_agree rfl rfl ?_
  refine ev_iload_n rfl rfl rfl ?_
  refine ev_iconst (v := 0) rfl rfl (by decide) ?_
  refine ev_iconst (v := 2) rfl rfl (by decide) ?_
  refine ev_S3D rfl rfl lk_X9_75 st_X9_isWithin rfl rfl (c_isWithin _ _ _ _ _) ?_
  refine ev_if_ne rfl rfl (fun c_6 => ?_) (fun c_6 => ?_)
  · refine ev_aload_n rfl rfl rfl ?_
    refine ev_getR rfl rfl fl_X9_22 rfl rfl rfl rfl ?_
    refine ev_getI rfl rfl fl_X9_158 rfl rfl rfl ?_
    try simp (disch := omega) only [ev_rd1, ev_rd2, ev_rd3, ev_rc1, k_keep_ne]
    refine ev_if_ne rfl rfl (fun z_ => absurd hz z_) (fun c_18 => ?_)
    refine ev_bipush (v := (-4)) rfl rfl (by decide) ?_
    exact ev_iret rfl rfl rfl (⟨congrArg (fun z => some (Value.int z)) (by simp only [if_neg c_6, if_pos c_18]), rfl, rfl⟩)
  · refine ev_iconst (v := (-1)) rfl rfl (by decide) ?_
    exact ev_iret rfl rfl rfl (⟨congrArg (fun z => some (Value.int z)) (by simp only [if_pos c_6]), rfl, rfl⟩)

set_option maxRecDepth 100000 in
set_option maxHeartbeats 4000000 in
theorem f_tuneOf (L : Nat) (b : Bool) (h : Hp) (ht : h 28 2 = 0) (t q : Int32) : EvD mi_X9_tuneOf [.ref 1, .int t, .int q] (G0 L b) h (-1) (h) := by
  refine EvD.of (lo := [some (.ref 1), some (.int t), some (.int q)]) pf_X9_tuneOf ok_X9_tuneOf rfl rfl ?_
  refine ev_aload_n rfl rfl rfl ?_
  refine ev_getR rfl rfl fl_X9_43 rfl rfl rfl rfl ?_
  refine ev_iload_n rfl rfl rfl ?_
  refine ev_V1D rfl rfl lk_X9_195 vt_X7_has rfl rfl rfl rfl rfl (c_X7_has _ _ _ _) ?_
  refine ev_if_ne rfl rfl (fun z_ => absurd (by rw [ht]; exact z_has0 _) z_) (fun c_8 => ?_)
  refine ev_iconst (v := (-1)) rfl rfl (by decide) ?_
  exact ev_iret rfl rfl rfl (⟨rfl, rfl, rfl⟩)

set_option maxRecDepth 100000 in
set_option maxHeartbeats 4000000 in
theorem f_tryOut (L : Nat) (b : Bool) (h : Hp) (ht : h 28 2 = 0) (t k : Int32) : EvD mi_X9_tryOut [.ref 1, .int t, .int k] (G0 L b) h (-1) (h) := by
  refine EvD.of (lo := [some (.ref 1), some (.int t), some (.int k), none, none, none, none]) pf_X9_tryOut ok_X9_tryOut rfl rfl ?_
  refine ev_aload_n rfl rfl rfl ?_
  refine ev_getR rfl rfl fl_X9_43 rfl rfl rfl rfl ?_
  refine ev_iload_n rfl rfl rfl ?_
  refine ev_V1D rfl rfl lk_X9_195 vt_X7_has rfl rfl rfl rfl rfl (c_X7_has _ _ _ _) ?_
  refine ev_if_eq rfl rfl (fun c_8 => ?_) (fun z_ => absurd (by rw [ht]; exact z_has0 _) z_)
  refine ev_iconst (v := (-1)) rfl rfl (by decide) ?_
  exact ev_iret rfl rfl rfl (⟨rfl, rfl, rfl⟩)

set_option maxRecDepth 100000 in
set_option maxHeartbeats 4000000 in
theorem f_play (L : Nat) (b : Bool) (h : Hp) (ht : h 28 2 = 0) (t k : Int32) : EvD mi_X9_play [.ref 1, .int t, .int k] (G0 L b) h (-1) (h) := by
  refine EvD.of (lo := [some (.ref 1), some (.int t), some (.int k), none, none]) pf_X9_play ok_X9_play rfl rfl ?_
  refine ev_aload_n rfl rfl rfl ?_
  refine ev_iload_n rfl rfl rfl ?_
  refine ev_iload_n rfl rfl rfl ?_
  refine ev_V2D rfl rfl lk_X9_217 vt_X9_tryOut rfl rfl rfl rfl rfl (f_tryOut _ _ _ ht _ _) ?_
  refine ev_istore_n rfl rfl rfl rfl ?_
  dsimp only [List.set]
  refine ev_iload_n rfl rfl rfl ?_
  refine ev_if_ge rfl rfl (fun z_ => absurd z_ (by decide)) (fun c_8 => ?_)
  refine ev_iload_n rfl rfl rfl ?_
  refine ev_bipush (v := (-100)) rfl rfl (by decide) ?_
  refine ev_icmp_ge rfl rfl (fun c_14 => ?_) (fun z_ => absurd (by decide) z_)
  refine ev_iconst (v := 0) rfl rfl (by decide) ?_
  refine ev_istore rfl rfl rfl rfl ?_
  dsimp only [List.set]
  refine ev_iload rfl rfl rfl ?_
  refine ev_if_eq rfl rfl (fun c_26 => ?_) (fun z_ => absurd (by decide) z_)
  refine ev_iload_n rfl rfl rfl ?_
  exact ev_iret rfl rfl rfl (⟨rfl, rfl, rfl⟩)

set_option maxRecDepth 100000 in
set_option maxHeartbeats 4000000 in
theorem f_would (L : Nat) (b : Bool) (h : Hp) (ht : h 28 2 = 0) (t k : Int32) : EvD mi_X9_would [.ref 1, .int t, .int k] (G0 L b) h (-1) (h) := by
  refine EvD.of (lo := [some (.ref 1), some (.int t), some (.int k)]) pf_X9_would ok_X9_would rfl rfl ?_
  refine ev_aload_n rfl rfl rfl ?_
  refine ev_iload_n rfl rfl rfl ?_
  refine ev_iload_n rfl rfl rfl ?_
  refine ev_V2D rfl rfl lk_X9_217 vt_X9_tryOut rfl rfl rfl rfl rfl (f_tryOut _ _ _ ht _ _) ?_
  exact ev_iret rfl rfl rfl (⟨rfl, rfl, rfl⟩)

set_option maxRecDepth 100000 in
set_option maxHeartbeats 4000000 in
theorem f_key (L : Nat) (b : Bool) (h : Hp) (ht : h 28 2 = 0) (t q : Int32) : EvD mi_X9_key [.ref 1, .int t, .int q] (G0 L b) h (-100) (h) := by
  refine EvD.of (lo := [some (.ref 1), some (.int t), some (.int q), none, none, none, none, none, none, none]) pf_X9_key ok_X9_key rfl rfl ?_
  refine ev_aload_n rfl rfl rfl ?_
  refine ev_getR rfl rfl fl_X9_43 rfl rfl rfl rfl ?_
  refine ev_iload_n rfl rfl rfl ?_
  refine ev_V1D rfl rfl lk_X9_195 vt_X7_has rfl rfl rfl rfl rfl (c_X7_has _ _ _ _) ?_
  refine ev_if_eq rfl rfl (fun c_8 => ?_) (fun z_ => absurd (by rw [ht]; exact z_has0 _) z_)
  refine ev_bipush (v := (-100)) rfl rfl (by decide) ?_
  exact ev_iret rfl rfl rfl (⟨rfl, rfl, rfl⟩)

set_option maxRecDepth 100000 in
set_option maxHeartbeats 4000000 in
theorem f_isBeat (L : Nat) (b : Bool) (h : Hp) (ht : h 28 2 = 0) (t q k : Int32) : EvD mi_X9_isBeat [.ref 1, .int t, .int q, .int k] (G0 L b) h (0) (h) := by
  refine EvD.of (lo := [some (.ref 1), some (.int t), some (.int q), some (.int k)]) pf_X9_isBeat ok_X9_isBeat rfl rfl ?_
  refine ev_aload_n rfl rfl rfl ?_
  refine ev_getR rfl rfl fl_X9_43 rfl rfl rfl rfl ?_
  refine ev_iload_n rfl rfl rfl ?_
  refine ev_V1D rfl rfl lk_X9_195 vt_X7_has rfl rfl rfl rfl rfl (c_X7_has _ _ _ _) ?_
  refine ev_if_eq rfl rfl (fun c_8 => ?_) (fun z_ => absurd (by rw [ht]; exact z_has0 _) z_)
  refine ev_iconst (v := 0) rfl rfl (by decide) ?_
  exact ev_iret rfl rfl rfl (⟨rfl, rfl, rfl⟩)

set_option maxRecDepth 100000 in
set_option maxHeartbeats 4000000 in
theorem f_set (L : Nat) (b : Bool) (h : Hp) (ht : h 28 2 = 0) (t k d r q : Int32) : EvD mi_X9_set [.ref 1, .int t, .int k, .int d, .int r, .int q] (G0 L b) h (-1) (h) := by
  refine EvD.of (lo := [some (.ref 1), some (.int t), some (.int k), some (.int d), some (.int r), some (.int q), none]) pf_X9_set ok_X9_set rfl rfl ?_
  refine ev_iload rfl rfl rfl ?_
  refine ev_iconst (v := 0) rfl rfl (by decide) ?_
  refine ev_iconst (v := 2) rfl rfl (by decide) ?_
  refine ev_S3D rfl rfl lk_X9_75 st_X9_isWithin rfl rfl (c_isWithin _ _ _ _ _) ?_
  refine ev_if_ne rfl rfl (fun c_7 => ?_) (fun c_7 => ?_)
  · refine ev_iconst (v := 1) rfl rfl (by decide) ?_
    refine ev_goto rfl rfl ?_
    refine ev_istore rfl rfl rfl rfl ?_
    dsimp only [List.set]
    refine ev_aload_n rfl rfl rfl ?_
    refine ev_getR rfl rfl fl_X9_43 rfl rfl rfl rfl ?_
    refine ev_iload_n rfl rfl rfl ?_
    refine ev_V1D rfl rfl lk_X9_195 vt_X7_has rfl rfl rfl rfl rfl (c_X7_has _ _ _ _) ?_
    refine ev_if_eq rfl rfl (fun c_49 => ?_) (fun z_ => absurd (by rw [ht]; exact z_has0 _) z_)
    refine ev_iconst (v := (-1)) rfl rfl (by decide) ?_
    exact ev_iret rfl rfl rfl (⟨rfl, rfl, rfl⟩)
  · refine ev_aload_n rfl rfl rfl ?_
    refine ev_iload_n rfl rfl rfl ?_
    refine ev_iload rfl rfl rfl ?_
    refine ev_bipush (v := 10) rfl rfl (by decide) ?_
    refine ev_V3D rfl rfl lk_X9_210 vt_X9_isBeat rfl rfl rfl rfl rfl (f_isBeat _ _ _ ht _ _ _) ?_
    refine ev_if_ne rfl rfl (fun z_ => absurd (by decide) z_) (fun c_19 => ?_)
    refine ev_aload_n rfl rfl rfl ?_
    refine ev_iload_n rfl rfl rfl ?_
    refine ev_iload rfl rfl rfl ?_
    refine ev_bipush (v := 40) rfl rfl (by decide) ?_
    refine ev_V3D rfl rfl lk_X9_210 vt_X9_isBeat rfl rfl rfl rfl rfl (f_isBeat _ _ _ ht _ _ _) ?_
    refine ev_if_eq rfl rfl (fun c_31 => ?_) (fun z_ => absurd (by decide) z_)
    refine ev_iconst (v := 0) rfl rfl (by decide) ?_
    refine ev_istore rfl rfl rfl rfl ?_
    dsimp only [List.set]
    refine ev_aload_n rfl rfl rfl ?_
    refine ev_getR rfl rfl fl_X9_43 rfl rfl rfl rfl ?_
    refine ev_iload_n rfl rfl rfl ?_
    refine ev_V1D rfl rfl lk_X9_195 vt_X7_has rfl rfl rfl rfl rfl (c_X7_has _ _ _ _) ?_
    refine ev_if_eq rfl rfl (fun c_49 => ?_) (fun z_ => absurd (by rw [ht]; exact z_has0 _) z_)
    refine ev_iconst (v := (-1)) rfl rfl (by decide) ?_
    exact ev_iret rfl rfl rfl (⟨rfl, rfl, rfl⟩)

set_option maxRecDepth 100000 in
set_option maxHeartbeats 4000000 in
theorem f_blame (L : Nat) (b : Bool) (h : Hp) (ht : h 28 2 = 0) (t k p s l f q : Int32) : EvD mi_X9_blame [.ref 1, .int t, .int k, .int p, .int s, .int l, .int f, .int q] (G0 L b) h (-1000) (h) := by
  refine EvD.of (lo := [some (.ref 1), some (.int t), some (.int k), some (.int p), some (.int s), some (.int l), some (.int f), some (.int q), none, none]) pf_X9_blame ok_X9_blame rfl rfl ?_
  refine ev_iload rfl rfl rfl ?_
  refine ev_iconst (v := 0) rfl rfl (by decide) ?_
  refine ev_iconst (v := 2) rfl rfl (by decide) ?_
  refine ev_S3D rfl rfl lk_X9_75 st_X9_isWithin rfl rfl (c_isWithin _ _ _ _ _) ?_
  refine ev_if_ne rfl rfl (fun c_7 => ?_) (fun c_7 => ?_)
  · refine ev_iconst (v := 1) rfl rfl (by decide) ?_
    refine ev_goto rfl rfl ?_
    refine ev_istore rfl rfl rfl rfl ?_
    dsimp only [List.set]
    refine ev_aload_n rfl rfl rfl ?_
    refine ev_getR rfl rfl fl_X9_43 rfl rfl rfl rfl ?_
    refine ev_iload_n rfl rfl rfl ?_
    refine ev_V1D rfl rfl lk_X9_195 vt_X7_has rfl rfl rfl rfl rfl (c_X7_has _ _ _ _) ?_
    refine ev_if_eq rfl rfl (fun c_47 => ?_) (fun z_ => absurd (by rw [ht]; exact z_has0 _) z_)
    refine ev_sipush (v := (-1000)) rfl rfl (by decide) ?_
    exact ev_iret rfl rfl rfl (⟨rfl, rfl, rfl⟩)
  · refine ev_iload rfl rfl rfl ?_
    refine ev_bipush (v := 20) rfl rfl (by decide) ?_
    refine ev_icmp_lt rfl rfl (fun c_14 => ?_) (fun c_14 => ?_)
    · refine ev_iconst (v := 0) rfl rfl (by decide) ?_
      refine ev_istore rfl rfl rfl rfl ?_
      dsimp only [List.set]
      refine ev_aload_n rfl rfl rfl ?_
      refine ev_getR rfl rfl fl_X9_43 rfl rfl rfl rfl ?_
      refine ev_iload_n rfl rfl rfl ?_
      refine ev_V1D rfl rfl lk_X9_195 vt_X7_has rfl rfl rfl rfl rfl (c_X7_has _ _ _ _) ?_
      refine ev_if_eq rfl rfl (fun c_47 => ?_) (fun z_ => absurd (by rw [ht]; exact z_has0 _) z_)
      refine ev_sipush (v := (-1000)) rfl rfl (by decide) ?_
      exact ev_iret rfl rfl rfl (⟨rfl, rfl, rfl⟩)
    · refine ev_aload_n rfl rfl rfl ?_
      refine ev_getR rfl rfl fl_X9_22 rfl rfl rfl rfl ?_
      refine ev_iload rfl rfl rfl ?_
      refine ev_bipush (v := 20) rfl rfl (by decide) ?_
      refine ev_isub rfl rfl ?_
      refine ev_V1D rfl rfl lk_X9_126 vt_X8_has rfl rfl rfl rfl rfl (c_X8_has _ _ _ _) ?_
      refine ev_if_eq rfl rfl (fun c_29 => ?_) (fun c_29 => ?_)
      · refine ev_iconst (v := 0) rfl rfl (by decide) ?_
        refine ev_istore rfl rfl rfl rfl ?_
        dsimp only [List.set]
        refine ev_aload_n rfl rfl rfl ?_
        refine ev_getR rfl rfl fl_X9_43 rfl rfl rfl rfl ?_
        refine ev_iload_n rfl rfl rfl ?_
        refine ev_V1D rfl rfl lk_X9_195 vt_X7_has rfl rfl rfl rfl rfl (c_X7_has _ _ _ _) ?_
        refine ev_if_eq rfl rfl (fun c_47 => ?_) (fun z_ => absurd (by rw [ht]; exact z_has0 _) z_)
        refine ev_sipush (v := (-1000)) rfl rfl (by decide) ?_
        exact ev_iret rfl rfl rfl (⟨rfl, rfl, rfl⟩)
      · refine ev_iconst (v := 1) rfl rfl (by decide) ?_
        refine ev_goto rfl rfl ?_
        refine ev_istore rfl rfl rfl rfl ?_
        dsimp only [List.set]
        refine ev_aload_n rfl rfl rfl ?_
        refine ev_getR rfl rfl fl_X9_43 rfl rfl rfl rfl ?_
        refine ev_iload_n rfl rfl rfl ?_
        refine ev_V1D rfl rfl lk_X9_195 vt_X7_has rfl rfl rfl rfl rfl (c_X7_has _ _ _ _) ?_
        refine ev_if_eq rfl rfl (fun c_47 => ?_) (fun z_ => absurd (by rw [ht]; exact z_has0 _) z_)
        refine ev_sipush (v := (-1000)) rfl rfl (by decide) ?_
        exact ev_iret rfl rfl rfl (⟨rfl, rfl, rfl⟩)

set_option maxRecDepth 100000 in
set_option maxHeartbeats 4000000 in
theorem f_step (L : Nat) (b : Bool) (h : Hp) (hb : h 50 2 = 0) (x y q : Int32) : EvD mi_X9_step [.ref 1, .int x, .int y, .int q] (G0 L b) h (-1) (h) := by
  refine EvD.of (lo := [some (.ref 1), some (.int x), some (.int y), some (.int q)]) pf_X9_step ok_X9_step rfl rfl ?_
  refine ev_aload_n rfl rfl rfl ?_
  refine ev_getR rfl rfl fl_X9_64 rfl rfl rfl rfl ?_
  refine ev_iload_n rfl rfl rfl ?_
  refine ev_V1D rfl rfl lk_X9_289 vt_X3_hasBoat rfl rfl rfl rfl rfl (c_X3_hasBoat _ _ _ _) ?_
  refine ev_if_eq rfl rfl (fun c_8 => ?_) (fun z_ => absurd (by rw [hb]; exact z_has0 _) z_)
  refine ev_iconst (v := (-1)) rfl rfl (by decide) ?_
  exact ev_iret rfl rfl rfl (⟨rfl, rfl, rfl⟩)

theorem z_fas1 (l lane : Int32) : z_fas (-1) l lane = 1 := by
  have q : ¬ z_noth (-1) = 0 := by decide
  unfold z_fas
  rw [if_neg q]

set_option maxRecDepth 100000 in
set_option maxHeartbeats 4000000 in
theorem f_scan (L : Nat) (b : Bool) (h : Hp) (hs : ∀ j, j < 4 → h 62 j = -1) (k l f n : Int32) : EvD mi_X9_scan [.ref 1, .int k, .int l, .int f, .int n] (G0 L b) h (if z_has k 4 = 0 then -1 else if z_wi l 0 2 = 0 then -1 else if z_wi n 0 12 = 0 then -1 else -11) (h) := by
  refine EvD.of (lo := [some (.ref 1), some (.int k), some (.int l), some (.int f), some (.int n), none, none, none, none]) pf_X9_scan ok_X9_scan rfl rfl ?_
  refine ev_aload_n rfl rfl rfl ?_
  refine ev_getR rfl rfl fl_X9_71 rfl rfl rfl rfl ?_
  refine ev_iload_n rfl rfl rfl ?_
  refine ev_V1D rfl rfl lk_X9_255 vt_X5_has rfl rfl rfl rfl rfl (c_X5_has _ _ _ _) ?_
  refine ev_if_eq rfl rfl (fun c_8 => ?_) (fun c_8 => ?_)
  · refine ev_iconst (v := (-1)) rfl rfl (by decide) ?_
    exact ev_iret rfl rfl rfl (⟨congrArg (fun z => some (Value.int z)) (by simp only [if_pos c_8]; try decide), rfl, rfl⟩)
  · refine ev_aload_n rfl rfl rfl ?_
    refine ev_getR rfl rfl fl_X9_71 rfl rfl rfl rfl ?_
    refine ev_iload_n rfl rfl rfl ?_
    refine ev_V1D rfl rfl lk_X9_256 vt_X5_isLane rfl rfl rfl rfl rfl (c_isLane _ _ _ _) ?_
    refine ev_if_eq rfl rfl (fun c_19 => ?_) (fun c_19 => ?_)
    · refine ev_iconst (v := (-1)) rfl rfl (by decide) ?_
      exact ev_iret rfl rfl rfl (⟨congrArg (fun z => some (Value.int z)) (by simp only [if_neg c_8, if_pos c_19]; try decide), rfl, rfl⟩)
    · refine ev_iload rfl rfl rfl ?_
      refine ev_iconst (v := 0) rfl rfl (by decide) ?_
      refine ev_bipush (v := 12) rfl rfl (by decide) ?_
      refine ev_S3D rfl rfl lk_X9_75 st_X9_isWithin rfl rfl (c_isWithin _ _ _ _ _) ?_
      refine ev_if_ne rfl rfl (fun c_30 => ?_) (fun c_30 => ?_)
      · obtain ⟨j, hj, rfl⟩ := z_hask (m := 4) rfl (Nat.le_refl 4) (by decide) c_8
        refine ev_aload_n rfl rfl rfl ?_
        refine ev_getR rfl rfl fl_X9_71 rfl rfl rfl rfl ?_
        refine ev_iload_n rfl rfl rfl ?_
        refine ev_iload_n rfl rfl rfl ?_
        refine ev_V2D rfl rfl lk_X9_259 vt_X5_faultAs rfl rfl rfl rfl rfl (c_faultAs _ _ _ j hj _) ?_
        rw [hs j hj, z_fas1]
        refine ev_istore rfl rfl rfl rfl ?_
        dsimp only [List.set]
        refine ev_iload rfl rfl rfl ?_
        refine ev_if_eq rfl rfl (fun z_ => absurd z_ (by decide)) (fun c_48 => ?_)
        refine ev_bipush (v := (-10)) rfl rfl (by decide) ?_
        refine ev_iload rfl rfl rfl ?_
        refine ev_isub rfl rfl ?_
        exact ev_iret rfl rfl rfl (⟨congrArg (fun z => some (Value.int z)) (by simp only [if_neg c_8, if_neg c_19, if_neg c_30, if_neg c_48]; try decide), rfl, rfl⟩)
      · refine ev_iconst (v := (-1)) rfl rfl (by decide) ?_
        exact ev_iret rfl rfl rfl (⟨congrArg (fun z => some (Value.int z)) (by simp only [if_neg c_8, if_neg c_19, if_pos c_30]; try decide), rfl, rfl⟩)

def z_bt (x : Int64) (i : Nat) : Int32 := (x >>> ((56 - 8 * nI i).toInt64 &&& 63)).toInt32.toInt8.toInt32.toInt8.toInt32
def k_tp (h : Hp) (m : Nat) (x : Int64) : Nat → Hp
  | 0 => h
  | i + 1 => ev_set (k_tp h m x i) 24 (m + i) (z_bt x i)
theorem k_tp_ne {h : Hp} {m : Nat} {x : Int64} {i j : Nat} (hi : i ≠ 24) : ∀ n, k_tp h m x n i j = h i j
  | 0 => rfl
  | n + 1 => (if_neg (fun q => hi q.1)).trans (k_tp_ne hi n)
def k_app (h : Hp) (m : Nat) (x : Int64) : Hp := if h 23 1 + 8 ≤ 160 then ev_set (k_tp h m x 8) 23 1 (h 23 1 + 8) else h

set_option maxRecDepth 100000 in
set_option maxHeartbeats 4000000 in
theorem l_append (L : Nat) (b : Bool) (h : Hp) (m : Nat) (hm0 : m + 8 ≤ 160) (hm : h 23 1 = nI m) (x : Int64) : ∀ t i : Nat, i + t = 8 → EvQ mi_X2_append 17 [some (.ref 23), some (.long x), none, some (.int (nI i))] [] (G0 L b) (k_tp h m x i) 0 0 (fun v G' h' => v = some (.int 1) ∧ G' = G0 L b ∧ h' = ev_set (k_tp h m x 8) 23 1 (h 23 1 + 8)) := by
  intro t
  induction t with
  | zero =>
    intro i hi
    have hi2 : i = 8 := by omega
    subst hi2
    refine ev_iload_n rfl rfl rfl ?_
    refine ev_bipush (v := 8) rfl rfl (by decide) ?_
    refine ev_icmp_ge rfl rfl (fun c_20 => ?_) (fun z_ => absurd (show (8 : Int32) ≤ nI 8 by decide) z_)
    refine ev_aload_n rfl rfl rfl ?_
    refine ev_dup rfl rfl rfl ?_
    refine ev_getI rfl rfl fl_X2_15 rfl rfl rfl ?_
    try simp (disch := omega) only [ev_rd1, ev_rd2, ev_rd3, k_tp_ne]
    refine ev_bipush (v := 8) rfl rfl (by decide) ?_
    refine ev_iadd rfl rfl ?_
    refine ev_putI rfl rfl fl_X2_15 rfl rfl rfl rfl rfl ?_
    refine ev_iconst (v := 1) rfl rfl (by decide) ?_
    exact ev_iret rfl rfl rfl (⟨rfl, rfl, rfl⟩)
  | succ t ih =>
    intro i hi
    refine ev_iload_n rfl rfl rfl ?_
    refine ev_bipush (v := 8) rfl rfl (by decide) ?_
    refine ev_icmp_ge rfl rfl (fun z_ => absurd z_ (show ¬ nI 8 ≤ nI i from nI_ge (by omega) (by omega))) (fun c_20 => ?_)
    refine ev_aload_n rfl rfl rfl ?_
    refine ev_getR rfl rfl fl_X2_11 rfl rfl rfl rfl ?_
    refine ev_aload_n rfl rfl rfl ?_
    refine ev_getI rfl rfl fl_X2_15 rfl rfl rfl ?_
    try simp (disch := omega) only [ev_rd1, ev_rd2, ev_rd3, k_tp_ne]
    refine ev_iload_n rfl rfl rfl ?_
    refine ev_iadd rfl rfl ?_
    refine ev_lload_n rfl rfl rfl ?_
    refine ev_bipush (v := 56) rfl rfl (by decide) ?_
    refine ev_bipush (v := 8) rfl rfl (by decide) ?_
    refine ev_iload_n rfl rfl rfl ?_
    refine ev_imul rfl rfl ?_
    refine ev_isub rfl rfl ?_
    refine ev_lshr rfl rfl ?_
    refine ev_l2i rfl rfl ?_
    refine ev_i2b rfl rfl ?_
    refine ev_bast (j := m + i) rfl rfl rfl rfl (by rw [hm, nI_add]; exact vp_in_nI (by omega) (by decide)) (by rw [hm, nI_add]; exact nI_clamp (by omega)) ?_
    refine ev_iinc (y := 1) rfl rfl rfl (by decide) rfl rfl ?_
    dsimp only [List.set]
    refine ev_goto rfl rfl ?_
    have z_ := ih (i + 1) (by omega)
    simp only [k_tp, z_bt] at z_
    rw [nI_1 i]
    exact z_

set_option maxRecDepth 100000 in
set_option maxHeartbeats 4000000 in
theorem c_append (L : Nat) (b : Bool) (h : Hp) (m : Nat) (hm0 : m ≤ 160) (hm : h 23 1 = nI m) (x : Int64) : EvD mi_X2_append [.ref 23, .long x] (G0 L b) h (if h 23 1 + 8 ≤ 160 then 1 else 0) (k_app h m x) := by
  refine EvD.of (lo := [some (.ref 23), some (.long x), none, none]) pf_X2_append ok_X2_append rfl rfl ?_
  refine ev_aload_n rfl rfl rfl ?_
  refine ev_getI rfl rfl fl_X2_15 rfl rfl rfl ?_
  refine ev_bipush (v := 8) rfl rfl (by decide) ?_
  refine ev_iadd rfl rfl ?_
  refine ev_sipush (v := 160) rfl rfl (by decide) ?_
  refine ev_icmp_le rfl rfl (fun c_10 => ?_) (fun c_10 => ?_)
  · have q8 : m + 8 ≤ 160 := by
      have q_ := c_10
      rw [hm] at q_
      exact (nI_leI (a := m + 8) (b := 160) (by omega) (by decide)).mp (by rw [← nI_add]; exact q_)
    refine ev_iconst (v := 0) rfl rfl (by decide) ?_
    refine ev_istore_n rfl rfl rfl rfl ?_
    dsimp only [List.set]
    refine EvQ.mono (l_append L b h m q8 hm x 8 0 (by omega)) (Nat.le_refl _) (Nat.le_refl _) ?_
    intro v G' h' q_
    exact ⟨q_.1.trans (congrArg (fun z => some (Value.int z)) (if_pos c_10).symm), q_.2.1, q_.2.2.trans (by simp only [k_app, if_pos c_10])⟩
  · refine ev_iconst (v := 0) rfl rfl (by decide) ?_
    exact ev_iret rfl rfl rfl (⟨congrArg (fun z => some (Value.int z)) (if_neg c_10).symm, rfl, by simp only [k_app, if_neg c_10]⟩)

set_option maxRecDepth 100000 in
set_option maxHeartbeats 4000000 in
theorem x_feed (L : Nat) (b : Bool) (h : Hp) (m : Nat) (hm0 : m ≤ 160) (hm : h 23 1 = nI m) (x : Int64) : EvD mi_X9_feed [.ref 1, .long x] (G0 L b) h (if h 23 1 + 8 ≤ 160 then h 23 1 + 8 else -3) (k_app h m x) := by
  refine EvD.of (lo := [some (.ref 1), some (.long x), none]) pf_X9_feed ok_X9_feed rfl rfl ?_
  refine ev_aload_n rfl rfl rfl ?_
  refine ev_getR rfl rfl fl_X9_36 rfl rfl rfl rfl ?_
  refine ev_lload_n rfl rfl rfl ?_
  refine ev_V1D rfl rfl lk_X9_169 vt_X2_append rfl rfl rfl rfl rfl (c_append _ _ _ m hm0 hm _) ?_
  refine ev_if_eq rfl rfl (fun c_8 => ?_) (fun c_8 => ?_)
  · have q8 : ¬ h 23 1 + 8 ≤ 160 := by
      intro q_
      rw [if_pos q_] at c_8
      exact absurd c_8 (by decide)
    refine ev_bipush (v := (-3)) rfl rfl (by decide) ?_
    exact ev_iret rfl rfl rfl (⟨congrArg (fun z => some (Value.int z)) (by first | (rw [if_pos q8]; simp only [k_app, if_pos q8]; rfl) | rw [if_neg q8]), rfl, rfl⟩)
  · have q8 : h 23 1 + 8 ≤ 160 := by
      by_cases q_ : h 23 1 + 8 ≤ 160
      · exact q_
      · rw [if_neg q_] at c_8
        exact absurd rfl c_8
    refine ev_aload_n rfl rfl rfl ?_
    refine ev_getR rfl rfl fl_X9_36 rfl rfl rfl rfl ?_
    refine ev_getI rfl rfl fl_X9_173 rfl rfl rfl ?_
    refine ev_goto rfl rfl ?_
    exact ev_iret rfl rfl rfl (⟨congrArg (fun z => some (Value.int z)) (by first | (rw [if_pos q8]; simp only [k_app, if_pos q8]; rfl) | rw [if_neg q8]), rfl, rfl⟩)

set_option maxRecDepth 100000 in
set_option maxHeartbeats 4000000 in
theorem c_fail (L : Nat) (b : Bool) (h : Hp) (f p : Int32) : EvU mi_X2_fail [.ref 23, .int f, .int p] (G0 L b) h (ev_set (ev_set h 23 7 f) 23 8 p) := by
  refine EvU.of (lo := [some (.ref 23), some (.int f), some (.int p)]) pf_X2_fail ok_X2_fail rfl rfl ?_
  refine ev_aload_n rfl rfl rfl ?_
  refine ev_iload_n rfl rfl rfl ?_
  refine ev_putI rfl rfl fl_X2_34 rfl rfl rfl rfl rfl ?_
  refine ev_aload_n rfl rfl rfl ?_
  refine ev_iload_n rfl rfl rfl ?_
  refine ev_putI rfl rfl fl_X2_37 rfl rfl rfl rfl rfl ?_
  exact ev_vret rfl rfl trivial (⟨rfl, rfl, rfl⟩)

set_option maxRecDepth 100000 in
set_option maxHeartbeats 4000000 in
theorem c_misplaced (L : Nat) (b : Bool) (h : Hp)  : EvD mi_X2_misplaced [.ref 23] (G0 L b) h (3) (ev_set (ev_set h 23 7 2) 23 8 (h 23 4)) := by
  refine EvD.of (lo := [some (.ref 23)]) pf_X2_misplaced ok_X2_misplaced rfl rfl ?_
  refine ev_aload_n rfl rfl rfl ?_
  refine ev_iconst (v := 2) rfl rfl (by decide) ?_
  refine ev_aload_n rfl rfl rfl ?_
  refine ev_getI rfl rfl fl_X2_25 rfl rfl rfl ?_
  refine ev_V2U rfl rfl lk_X2_79 vt_X2_fail rfl rfl rfl rfl rfl (c_fail _ _ _ _ _) ?_
  refine ev_iconst (v := 3) rfl rfl (by decide) ?_
  exact ev_iret rfl rfl rfl (⟨rfl, rfl, rfl⟩)

set_option maxRecDepth 100000 in
set_option maxHeartbeats 4000000 in
theorem f_token (L : Nat) (b : Bool) (h : Hp) (hl : h 23 1 ≤ h 23 2) : EvU mi_X2_readToken [.ref 23] (G0 L b) h (ev_set (ev_set h 23 4 (h 23 2)) 23 3 0) := by
  refine EvU.of (lo := [some (.ref 23)]) pf_X2_readToken ok_X2_readToken rfl rfl ?_
  refine ev_aload_n rfl rfl rfl ?_
  refine ev_getI rfl rfl fl_X2_19 rfl rfl rfl ?_
  refine ev_aload_n rfl rfl rfl ?_
  refine ev_getI rfl rfl fl_X2_15 rfl rfl rfl ?_
  refine ev_icmp_ge rfl rfl (fun c_8 => ?_) (fun z_ => absurd hl z_)
  refine ev_aload_n rfl rfl rfl ?_
  refine ev_aload_n rfl rfl rfl ?_
  refine ev_getI rfl rfl fl_X2_19 rfl rfl rfl ?_
  refine ev_putI rfl rfl fl_X2_25 rfl rfl rfl rfl rfl ?_
  refine ev_aload_n rfl rfl rfl ?_
  refine ev_getI rfl rfl fl_X2_19 rfl rfl rfl ?_
  try simp (disch := omega) only [ev_rd1, ev_rd2, ev_rd3, ev_rc1, k_keep_ne]
  refine ev_aload_n rfl rfl rfl ?_
  refine ev_getI rfl rfl fl_X2_15 rfl rfl rfl ?_
  try simp (disch := omega) only [ev_rd1, ev_rd2, ev_rd3, ev_rc1, k_keep_ne]
  refine ev_icmp_lt rfl rfl (fun z_ => absurd z_ (Int32.not_lt.mpr hl)) (fun c_54 => ?_)
  refine ev_aload_n rfl rfl rfl ?_
  refine ev_iconst (v := 0) rfl rfl (by decide) ?_
  refine ev_putI rfl rfl fl_X2_22 rfl rfl rfl rfl rfl ?_
  refine ev_goto rfl rfl ?_
  exact ev_vret rfl rfl trivial (⟨rfl, rfl, rfl⟩)

set_option maxRecDepth 100000 in
set_option maxHeartbeats 4000000 in
theorem f_take (L : Nat) (b : Bool) (h : Hp) (hk : h 23 3 = 0) : EvD mi_X2_take [.ref 23, .int 0] (G0 L b) h (3) (ev_set (ev_set h 23 7 2) 23 8 (h 23 4)) := by
  refine EvD.of (lo := [some (.ref 23), some (.int 0)]) pf_X2_take ok_X2_take rfl rfl ?_
  refine ev_iload_n rfl rfl rfl ?_
  refine ev_iconst (v := 2) rfl rfl (by decide) ?_
  refine ev_icmp_ne rfl rfl (fun c_2 => ?_) (fun z_ => absurd z_ (by decide))
  refine ev_aload_n rfl rfl rfl ?_
  refine ev_getV (v := 0) rfl rfl fl_X2_22 rfl rfl rfl hk ?_
  refine ev_tabIn 108 rfl (by decide) (by decide) rfl (by decide) ?_
  refine ev_iload_n rfl rfl rfl ?_
  refine ev_iconst (v := 1) rfl rfl (by decide) ?_
  refine ev_icmp_ne rfl rfl (fun c_110 => ?_) (fun z_ => absurd z_ (by decide))
  refine ev_aload_n rfl rfl rfl ?_
  refine ev_V0D rfl rfl lk_X2_87 vt_X2_misplaced rfl rfl rfl rfl rfl (c_misplaced _ _ _) ?_
  exact ev_iret rfl rfl rfl (⟨rfl, rfl, rfl⟩)

def k_rd0 (h : Hp) : Hp := ev_set (ev_set (ev_set (ev_set (ev_set (ev_set (ev_set (ev_set (ev_set h 23 2 0) 23 7 0) 23 8 0) 23 10 0) 23 13 0) 23 4 0) 23 3 0) 23 7 2) 23 8 0

set_option maxRecDepth 100000 in
set_option maxHeartbeats 4000000 in
theorem f_readAll (L : Nat) (b : Bool) (h : Hp) (hl : h 23 1 = 0) : EvU mi_X2_readAll [.ref 23] (G0 L b) h (k_rd0 h) := by
  refine EvU.of (lo := [some (.ref 23), none, none]) pf_X2_readAll ok_X2_readAll rfl rfl ?_
  refine ev_aload_n rfl rfl rfl ?_
  refine ev_iconst (v := 0) rfl rfl (by decide) ?_
  refine ev_putI rfl rfl fl_X2_19 rfl rfl rfl rfl rfl ?_
  refine ev_aload_n rfl rfl rfl ?_
  refine ev_iconst (v := 0) rfl rfl (by decide) ?_
  refine ev_putI rfl rfl fl_X2_34 rfl rfl rfl rfl rfl ?_
  refine ev_aload_n rfl rfl rfl ?_
  refine ev_iconst (v := 0) rfl rfl (by decide) ?_
  refine ev_putI rfl rfl fl_X2_37 rfl rfl rfl rfl rfl ?_
  refine ev_aload_n rfl rfl rfl ?_
  refine ev_iconst (v := 0) rfl rfl (by decide) ?_
  refine ev_putI rfl rfl fl_X2_44 rfl rfl rfl rfl rfl ?_
  refine ev_aload_n rfl rfl rfl ?_
  refine ev_iconst (v := 0) rfl rfl (by decide) ?_
  refine ev_putI rfl rfl fl_X2_53 rfl rfl rfl rfl rfl ?_
  refine ev_iconst (v := 0) rfl rfl (by decide) ?_
  refine ev_istore_n rfl rfl rfl rfl ?_
  dsimp only [List.set]
  refine ev_iconst (v := 0) rfl rfl (by decide) ?_
  refine ev_istore_n rfl rfl rfl rfl ?_
  dsimp only [List.set]
  refine ev_iload_n rfl rfl rfl ?_
  refine ev_aload_n rfl rfl rfl ?_
  refine ev_getV (v := 0) rfl rfl fl_X2_15 rfl rfl rfl (by simp (disch := omega) only [ev_rd1, ev_rd2, ev_rd3]; exact hl) ?_
  refine ev_icmp_gt rfl rfl (fun z_ => absurd z_ (by decide)) (fun c_34 => ?_)
  refine ev_iload_n rfl rfl rfl ?_
  refine ev_iconst (v := 3) rfl rfl (by decide) ?_
  refine ev_icmp_eq rfl rfl (fun z_ => absurd z_ (by decide)) (fun c_39 => ?_)
  refine ev_aload_n rfl rfl rfl ?_
  refine ev_getI rfl rfl fl_X2_34 rfl rfl rfl ?_
  try simp (disch := omega) only [ev_rd1, ev_rd2, ev_rd3, ev_rc1, k_keep_ne]
  refine ev_if_ne rfl rfl (fun z_ => absurd rfl z_) (fun c_46 => ?_)
  refine ev_aload_n rfl rfl rfl ?_
  refine ev_V0U rfl rfl lk_X2_56 vt_X2_readToken rfl rfl rfl rfl rfl (f_token _ _ _ (by simp (disch := omega) only [ev_rd1, ev_rd2, ev_rd3]; rw [hl]; decide)) ?_
  refine ev_aload_n rfl rfl rfl ?_
  refine ev_getI rfl rfl fl_X2_34 rfl rfl rfl ?_
  try simp (disch := omega) only [ev_rd1, ev_rd2, ev_rd3, ev_rc1, k_keep_ne]
  refine ev_if_ne rfl rfl (fun z_ => absurd rfl z_) (fun c_57 => ?_)
  refine ev_aload_n rfl rfl rfl ?_
  refine ev_iload_n rfl rfl rfl ?_
  refine ev_V1D rfl rfl lk_X2_59 vt_X2_take rfl rfl rfl rfl rfl (f_take _ _ _ rfl) ?_
  refine ev_istore_n rfl rfl rfl rfl ?_
  dsimp only [List.set]
  refine ev_iinc (y := 1) rfl rfl rfl (by decide) rfl rfl ?_
  dsimp only [List.set]
  refine ev_goto rfl rfl ?_
  refine ev_iload_n rfl rfl rfl ?_
  refine ev_aload_n rfl rfl rfl ?_
  refine ev_getV (v := 0) rfl rfl fl_X2_15 rfl rfl rfl (by simp (disch := omega) only [ev_rd1, ev_rd2, ev_rd3]; exact hl) ?_
  refine ev_icmp_gt rfl rfl (fun c_34b => ?_) (fun z_ => absurd (by decide) z_)
  exact ev_vret rfl rfl trivial (⟨rfl, rfl, rfl⟩)

set_option maxRecDepth 100000 in
set_option maxHeartbeats 4000000 in
theorem f_tune (L : Nat) (b : Bool) (h : Hp) (ht : h 28 2 = 0) (hl : h 23 1 = 0) : EvD mi_X9_tune [.ref 1] (G0 L b) h (-10) (ev_set (k_rd0 h) 23 1 0) := by
  refine EvD.of (lo := [some (.ref 1)]) pf_X9_tune ok_X9_tune rfl rfl ?_
  refine ev_aload_n rfl rfl rfl ?_
  refine ev_getR rfl rfl fl_X9_43 rfl rfl rfl rfl ?_
  refine ev_getI rfl rfl fl_X9_176 rfl rfl rfl ?_
  refine ev_bipush (v := 6) rfl rfl (by decide) ?_
  refine ev_icmp_lt rfl rfl (fun c_9 => ?_) (fun z_ => absurd (by rw [ht]; decide) z_)
  refine ev_aload_n rfl rfl rfl ?_
  refine ev_getR rfl rfl fl_X9_36 rfl rfl rfl rfl ?_
  refine ev_V0U rfl rfl lk_X9_177 vt_X2_readAll rfl rfl rfl rfl rfl (f_readAll _ _ _ hl) ?_
  refine ev_aload_n rfl rfl rfl ?_
  refine ev_getR rfl rfl fl_X9_36 rfl rfl rfl rfl ?_
  refine ev_iconst (v := 0) rfl rfl (by decide) ?_
  refine ev_putI rfl rfl fl_X9_173 rfl rfl rfl rfl rfl ?_
  refine ev_aload_n rfl rfl rfl ?_
  refine ev_getR rfl rfl fl_X9_36 rfl rfl rfl rfl ?_
  refine ev_getI rfl rfl fl_X9_180 rfl rfl rfl ?_
  try simp (disch := omega) only [k_rd0, ev_rd1, ev_rd2, ev_rd3]
  refine ev_if_eq rfl rfl (fun z_ => absurd z_ (by decide)) (fun c_37 => ?_)
  refine ev_bipush (v := (-10)) rfl rfl (by decide) ?_
  refine ev_aload_n rfl rfl rfl ?_
  refine ev_getR rfl rfl fl_X9_36 rfl rfl rfl rfl ?_
  refine ev_getI rfl rfl fl_X9_183 rfl rfl rfl ?_
  try simp (disch := omega) only [k_rd0, ev_rd1, ev_rd2, ev_rd3]
  refine ev_isub rfl rfl ?_
  exact ev_iret rfl rfl rfl (⟨congrArg (fun z => some (Value.int z)) (by decide), rfl, rfl⟩)
