theorem EvD.ix {mi : MI} {args : List Value} {G : Geo} {h h1 : Hp} {r : Int32} {W : List (Nat × Nat)} (k : EvD mi args G h r h1) (hJ : JW W h h1) : EvI mi args G h (fun r' z => r' = r ∧ z = h1) W := EvM.mono k (fun v G' h' q => by
  obtain ⟨rfl, rfl, rfl⟩ := q
  exact ⟨⟨_, rfl, rfl, rfl⟩, rfl, hJ⟩)
theorem ev_sj (h : Hp) (a m j : Nat) (x : Int32) : ev_set h a m x a j = if j = m then x else h a j := by
  unfold ev_set
  by_cases e : j = m
  · rw [if_pos ⟨rfl, e⟩, if_pos e]
  · rw [if_neg (fun z => e z.2), if_neg e]
theorem B.nI {x : Int32} {u : Nat} (p : B x 0 (u : Int)) : x = nI x.toNatClampNeg ∧ x.toNatClampNeg ≤ u := ⟨p.nat.1, by have := p.nat.2; have := p.2; omega⟩
/-- boats, bends, speed: the same on both sides -/
def RV (h : Hp) : Prop := h 50 2 = h 63 45 ∧ h 50 5 = h 63 48 ∧ h 50 6 = h 63 51 ∧ (∀ j, h 51 j = h 88 j) ∧ (∀ j, h 52 j = h 89 j) ∧ (∀ j, h 53 j = h 90 j) ∧ (∀ j, h 54 j = h 91 j)

def rmB (n p l : Int32) : Int32 := if z_wi p 0 999 = 0 then -1 else if z_wi l 0 99 = 0 then -1 else if n = 4 then -3 else n + 1 - 1
def kmB (h : Hp) (p l : Int32) : Hp := if z_wi p 0 999 = 0 then h else if z_wi l 0 99 = 0 then h else if h 63 45 = 4 then h else ev_set (ev_set (ev_set h 88 (h 63 45).toNatClampNeg p) 89 (h 63 45).toNatClampNeg l) 63 45 (h 63 45 + 1)
theorem z_bb4 {h : Hp} (hB : Bx h) (c : ¬ h 63 45 = 4) : vp_in (h 63 45) 4 := by
  have p5 : B (h 63 45) 0 4 := hB 63 45
  exact (R_neU p5 (by decide : B 4 4 4) c (by decide) : B (h 63 45) 0 3).vp (by decide) (by decide)
theorem z_bb6 {h : Hp} (hB : Bx h) (c : ¬ h 63 48 = 6) : vp_in (h 63 48) 6 := by
  have p5 : B (h 63 48) 0 6 := hB 63 48
  exact (R_neU p5 (by decide : B 6 6 6) c (by decide) : B (h 63 48) 0 5).vp (by decide) (by decide)

set_option maxRecDepth 100000 in
set_option maxHeartbeats 4000000 in
theorem c_mboatE (L : Nat) (b : Bool) (h : Hp) (hB : Bx h) (p l : Int32) : EvD mi_X10_boat [.ref 63, .int p, .int l] (G0 L b) h (rmB (h 63 45) p l) (kmB h p l) := by
  refine EvD.of (lo := [some (.ref 63), some (.int p), some (.int l)]) pf_X10_boat ok_X10_boat rfl rfl ?_
  refine ev_iload_n rfl rfl rfl ?_
  refine ev_i2l rfl rfl ?_
  refine ev_lconst (v := 0) rfl rfl rfl ?_
  refine ev_ldc2 rfl rfl kc_X10_342 ?_
  refine ev_S3D rfl rfl lk_X10_124 st_X10_in rfl rfl (c_inw _ _ _ (0) (999) (by decide) (by decide)) ?_
  refine ev_if_eq rfl rfl (fun c_9 => ?_) (fun c_9 => ?_)
  · refine ev_iconst (v := (-1)) rfl rfl (by decide) ?_
    exact ev_iret rfl rfl rfl (⟨congrArg (fun z => some (Value.int z)) (by simp only [rmB, if_pos c_9]), rfl, by simp only [kmB, if_pos c_9]⟩)
  · refine ev_iload_n rfl rfl rfl ?_
    refine ev_i2l rfl rfl ?_
    refine ev_lconst (v := 0) rfl rfl rfl ?_
    refine ev_ldc2 rfl rfl kc_X10_344 ?_
    refine ev_S3D rfl rfl lk_X10_124 st_X10_in rfl rfl (c_inw _ _ _ (0) (99) (by decide) (by decide)) ?_
    refine ev_if_ne rfl rfl (fun c_21 => ?_) (fun c_21 => ?_)
    · refine ev_aload_n rfl rfl rfl ?_
      refine ev_getI rfl rfl fl_X10_346 rfl rfl rfl ?_
      try simp only [ev_rd1, ev_rd2 (by decide : (63 : Nat) ≠ 88), ev_rd2 (by decide : (63 : Nat) ≠ 89)]
      refine ev_iconst (v := 4) rfl rfl (by decide) ?_
      refine ev_icmp_ne rfl rfl (fun c_31 => ?_) (fun c_31 => ?_)
      · refine ev_aload_n rfl rfl rfl ?_
        refine ev_getR rfl rfl fl_X10_97 rfl rfl rfl rfl ?_
        refine ev_aload_n rfl rfl rfl ?_
        refine ev_getI rfl rfl fl_X10_346 rfl rfl rfl ?_
        try simp only [ev_rd1, ev_rd2 (by decide : (63 : Nat) ≠ 88), ev_rd2 (by decide : (63 : Nat) ≠ 89)]
        refine ev_iload_n rfl rfl rfl ?_
        refine ev_iast rfl rfl rfl rfl (z_bb4 hB c_31) rfl ?_
        refine ev_aload_n rfl rfl rfl ?_
        refine ev_getR rfl rfl fl_X10_100 rfl rfl rfl rfl ?_
        refine ev_aload_n rfl rfl rfl ?_
        refine ev_getI rfl rfl fl_X10_346 rfl rfl rfl ?_
        try simp only [ev_rd1, ev_rd2 (by decide : (63 : Nat) ≠ 88), ev_rd2 (by decide : (63 : Nat) ≠ 89)]
        refine ev_iload_n rfl rfl rfl ?_
        refine ev_iast rfl rfl rfl rfl (z_bb4 hB c_31) rfl ?_
        refine ev_aload_n rfl rfl rfl ?_
        refine ev_dup rfl rfl rfl ?_
        refine ev_getI rfl rfl fl_X10_346 rfl rfl rfl ?_
        try simp only [ev_rd1, ev_rd2 (by decide : (63 : Nat) ≠ 88), ev_rd2 (by decide : (63 : Nat) ≠ 89)]
        refine ev_iconst (v := 1) rfl rfl (by decide) ?_
        refine ev_iadd rfl rfl ?_
        refine ev_putI rfl rfl fl_X10_346 rfl rfl rfl rfl rfl ?_
        refine ev_aload_n rfl rfl rfl ?_
        refine ev_getI rfl rfl fl_X10_346 rfl rfl rfl ?_
        try simp only [ev_rd1, ev_rd2 (by decide : (63 : Nat) ≠ 88), ev_rd2 (by decide : (63 : Nat) ≠ 89)]
        refine ev_iconst (v := 1) rfl rfl (by decide) ?_
        refine ev_isub rfl rfl ?_
        exact ev_iret rfl rfl rfl (⟨congrArg (fun z => some (Value.int z)) (by simp only [rmB, if_neg c_9, if_neg c_21, if_neg c_31]), rfl, by simp only [kmB, if_neg c_9, if_neg c_21, if_neg c_31]⟩)
      · refine ev_bipush (v := (-3)) rfl rfl (by decide) ?_
        exact ev_iret rfl rfl rfl (⟨congrArg (fun z => some (Value.int z)) (by simp only [rmB, if_neg c_9, if_neg c_21, if_pos c_31]), rfl, by simp only [kmB, if_neg c_9, if_neg c_21, if_pos c_31]⟩)
    · refine ev_iconst (v := (-1)) rfl rfl (by decide) ?_
      exact ev_iret rfl rfl rfl (⟨congrArg (fun z => some (Value.int z)) (by simp only [rmB, if_neg c_9, if_pos c_21]), rfl, by simp only [kmB, if_neg c_9, if_pos c_21]⟩)

def s_mb (h : Hp) (p g : Int32) : Nat → Int32
  | 0 => g
  | k + 1 => if s_mb h p g k = 0 then 0 else if h 90 k = p then 0 else 1
def z_g (p l : Int32) : Int32 := if z_wi p 0 999 = 0 then 0 else if z_wi l 1 99 = 0 then 0 else 1
def rmN (h : Hp) (m : Nat) (p g : Int32) : Int32 := if s_mb h p g m = 0 then -1 else if h 63 48 = 6 then -3 else h 63 48 + 1
def kmN (h : Hp) (m : Nat) (p l g : Int32) : Hp := if s_mb h p g m = 0 then h else if h 63 48 = 6 then h else ev_set (ev_set (ev_set h 90 (h 63 48).toNatClampNeg p) 91 (h 63 48).toNatClampNeg l) 63 48 (h 63 48 + 1)

set_option maxRecDepth 100000 in
set_option maxHeartbeats 4000000 in
theorem l_mbend (L : Nat) (b : Bool) (h : Hp) (hB : Bx h) (m : Nat) (hm0 : m ≤ 6) (hm : h 63 48 = nI m) (p l g : Int32) : ∀ t i : Nat, i + t = m → EvQ mi_X10_bend 33 [some (.ref 63), some (.int p), some (.int l), some (.int (s_mb h p g i)), some (.int (nI i))] [] (G0 L b) h 0 0 (fun v G' h' => v = some (.int (rmN h m p g)) ∧ G' = G0 L b ∧ h' = kmN h m p l g) := by
  intro t
  induction t with
  | zero =>
    intro i hi
    have hi2 : i = m := by omega
    subst hi2
    refine ev_iload rfl rfl rfl ?_
    refine ev_aload_n rfl rfl rfl ?_
    refine ev_getI rfl rfl fl_X10_349 rfl rfl rfl ?_
    refine ev_icmp_ge rfl rfl (fun c_39 => ?_) (fun z_ => absurd (by rw [hm]; exact Int32.le_refl _) z_)
    refine ev_iload_n rfl rfl rfl ?_
    refine ev_if_ne rfl rfl (fun c_70 => ?_) (fun c_70 => ?_)
    · refine ev_aload_n rfl rfl rfl ?_
      refine ev_getI rfl rfl fl_X10_349 rfl rfl rfl ?_
      refine ev_bipush (v := 6) rfl rfl (by decide) ?_
      refine ev_icmp_ne rfl rfl (fun c_81 => ?_) (fun c_81 => ?_)
      · refine ev_aload_n rfl rfl rfl ?_
        refine ev_getR rfl rfl fl_X10_103 rfl rfl rfl rfl ?_
        refine ev_aload_n rfl rfl rfl ?_
        refine ev_getI rfl rfl fl_X10_349 rfl rfl rfl ?_
        refine ev_iload_n rfl rfl rfl ?_
        refine ev_iast rfl rfl rfl rfl (z_bb6 hB c_81) rfl ?_
        refine ev_aload_n rfl rfl rfl ?_
        refine ev_getR rfl rfl fl_X10_106 rfl rfl rfl rfl ?_
        refine ev_aload_n rfl rfl rfl ?_
        refine ev_getI rfl rfl fl_X10_349 rfl rfl rfl ?_
        try simp only [ev_rd1, ev_rd2 (by decide : (63 : Nat) ≠ 90), ev_rd2 (by decide : (63 : Nat) ≠ 91)]
        refine ev_iload_n rfl rfl rfl ?_
        refine ev_iast rfl rfl rfl rfl (z_bb6 hB c_81) rfl ?_
        refine ev_aload_n rfl rfl rfl ?_
        refine ev_dup rfl rfl rfl ?_
        refine ev_getI rfl rfl fl_X10_349 rfl rfl rfl ?_
        try simp only [ev_rd1, ev_rd2 (by decide : (63 : Nat) ≠ 90), ev_rd2 (by decide : (63 : Nat) ≠ 91)]
        refine ev_iconst (v := 1) rfl rfl (by decide) ?_
        refine ev_iadd rfl rfl ?_
        refine ev_putI rfl rfl fl_X10_349 rfl rfl rfl rfl rfl ?_
        refine ev_aload_n rfl rfl rfl ?_
        refine ev_getI rfl rfl fl_X10_349 rfl rfl rfl ?_
        try simp only [ev_rd1, ev_rd2 (by decide : (63 : Nat) ≠ 90), ev_rd2 (by decide : (63 : Nat) ≠ 91)]
        exact ev_iret rfl rfl rfl (⟨congrArg (fun z => some (Value.int z)) (by simp only [rmN, if_pos c_39, if_neg c_70, if_neg c_81]), rfl, by simp only [kmN, if_pos c_39, if_neg c_70, if_neg c_81]⟩)
      · refine ev_bipush (v := (-3)) rfl rfl (by decide) ?_
        exact ev_iret rfl rfl rfl (⟨congrArg (fun z => some (Value.int z)) (by simp only [rmN, if_pos c_39, if_neg c_70, if_pos c_81]), rfl, by simp only [kmN, if_pos c_39, if_neg c_70, if_pos c_81]⟩)
    · refine ev_iconst (v := (-1)) rfl rfl (by decide) ?_
      exact ev_iret rfl rfl rfl (⟨congrArg (fun z => some (Value.int z)) (by simp only [rmN, if_pos c_39, if_pos c_70]), rfl, by simp only [kmN, if_pos c_39, if_pos c_70]⟩)
  | succ t ih =>
    intro i hi
    refine ev_iload rfl rfl rfl ?_
    refine ev_aload_n rfl rfl rfl ?_
    refine ev_getI rfl rfl fl_X10_349 rfl rfl rfl ?_
    refine ev_icmp_ge rfl rfl (fun z_ => absurd z_ (by rw [hm]; exact nI_ge (by omega) (by omega))) (fun c_39 => ?_)
    refine ev_iload_n rfl rfl rfl ?_
    refine ev_if_eq rfl rfl (fun c_43 => ?_) (fun c_43 => ?_)
    · refine ev_iconst (v := 0) rfl rfl (by decide) ?_
      refine ev_istore_n rfl rfl rfl rfl ?_
      dsimp only [List.set]
      refine ev_iinc (y := 1) rfl rfl rfl (by decide) rfl rfl ?_
      dsimp only [List.set]
      refine ev_goto rfl rfl ?_
      have z_ := ih (i + 1) (by omega)
      simp only [s_mb, if_neg c_39, if_pos c_43] at z_
      rw [nI_1 i]
      exact z_
    · refine ev_aload_n rfl rfl rfl ?_
      refine ev_getR rfl rfl fl_X10_103 rfl rfl rfl rfl ?_
      refine ev_iload rfl rfl rfl ?_
      refine ev_iald rfl rfl rfl (vp_in_nI (by omega) (by decide)) (nI_clamp (by omega)) ?_
      refine ev_iload_n rfl rfl rfl ?_
      refine ev_icmp_eq rfl rfl (fun c_54 => ?_) (fun c_54 => ?_)
      · refine ev_iconst (v := 0) rfl rfl (by decide) ?_
        refine ev_istore_n rfl rfl rfl rfl ?_
        dsimp only [List.set]
        refine ev_iinc (y := 1) rfl rfl rfl (by decide) rfl rfl ?_
        dsimp only [List.set]
        refine ev_goto rfl rfl ?_
        have z_ := ih (i + 1) (by omega)
        simp only [s_mb, if_neg c_39, if_neg c_43, if_pos c_54] at z_
        rw [nI_1 i]
        exact z_
      · refine ev_iconst (v := 1) rfl rfl (by decide) ?_
        refine ev_goto rfl rfl ?_
        refine ev_istore_n rfl rfl rfl rfl ?_
        dsimp only [List.set]
        refine ev_iinc (y := 1) rfl rfl rfl (by decide) rfl rfl ?_
        dsimp only [List.set]
        refine ev_goto rfl rfl ?_
        have z_ := ih (i + 1) (by omega)
        simp only [s_mb, if_neg c_39, if_neg c_43, if_neg c_54] at z_
        rw [nI_1 i]
        exact z_

set_option maxRecDepth 100000 in
set_option maxHeartbeats 4000000 in
theorem c_mbend (L : Nat) (b : Bool) (h : Hp) (hB : Bx h) (m : Nat) (hm0 : m ≤ 6) (hm : h 63 48 = nI m) (p l : Int32) : EvD mi_X10_bend [.ref 63, .int p, .int l] (G0 L b) h (rmN h m p (z_g p l)) (kmN h m p l (z_g p l)) := by
  refine EvD.of (lo := [some (.ref 63), some (.int p), some (.int l), none, none]) pf_X10_bend ok_X10_bend rfl rfl ?_
  refine ev_iload_n rfl rfl rfl ?_
  refine ev_i2l rfl rfl ?_
  refine ev_lconst (v := 0) rfl rfl rfl ?_
  refine ev_ldc2 rfl rfl kc_X10_342 ?_
  refine ev_S3D rfl rfl lk_X10_124 st_X10_in rfl rfl (c_inw _ _ _ (0) (999) (by decide) (by decide)) ?_
  refine ev_if_eq rfl rfl (fun c_9 => ?_) (fun c_9 => ?_)
  · refine ev_iconst (v := 0) rfl rfl (by decide) ?_
    refine ev_istore_n rfl rfl rfl rfl ?_
    dsimp only [List.set]
    refine ev_iconst (v := 0) rfl rfl (by decide) ?_
    refine ev_istore rfl rfl rfl rfl ?_
    dsimp only [List.set]
    simp only [z_g, if_pos c_9]
    exact l_mbend L b h hB m hm0 hm p l _ m 0 (by omega)
  · refine ev_iload_n rfl rfl rfl ?_
    refine ev_i2l rfl rfl ?_
    refine ev_lconst (v := 1) rfl rfl rfl ?_
    refine ev_ldc2 rfl rfl kc_X10_344 ?_
    refine ev_S3D rfl rfl lk_X10_124 st_X10_in rfl rfl (c_inw _ _ _ (1) (99) (by decide) (by decide)) ?_
    refine ev_if_eq rfl rfl (fun c_21 => ?_) (fun c_21 => ?_)
    · refine ev_iconst (v := 0) rfl rfl (by decide) ?_
      refine ev_istore_n rfl rfl rfl rfl ?_
      dsimp only [List.set]
      refine ev_iconst (v := 0) rfl rfl (by decide) ?_
      refine ev_istore rfl rfl rfl rfl ?_
      dsimp only [List.set]
      simp only [z_g, if_neg c_9, if_pos c_21]
      exact l_mbend L b h hB m hm0 hm p l _ m 0 (by omega)
    · refine ev_iconst (v := 1) rfl rfl (by decide) ?_
      refine ev_goto rfl rfl ?_
      refine ev_istore_n rfl rfl rfl rfl ?_
      dsimp only [List.set]
      refine ev_iconst (v := 0) rfl rfl (by decide) ?_
      refine ev_istore rfl rfl rfl rfl ?_
      dsimp only [List.set]
      simp only [z_g, if_neg c_9, if_neg c_21]
      exact l_mbend L b h hB m hm0 hm p l _ m 0 (by omega)

set_option maxRecDepth 100000 in
set_option maxHeartbeats 4000000 in
theorem c_mspeed (L : Nat) (b : Bool) (h : Hp) (v : Int32) : EvD mi_X10_speed [.ref 63, .int v] (G0 L b) h (if z_wi v 1 99 = 0 then -1 else h 63 51) (if z_wi v 1 99 = 0 then h else ev_set h 63 51 v) := by
  refine EvD.of (lo := [some (.ref 63), some (.int v), none]) pf_X10_speed ok_X10_speed rfl rfl ?_
  refine ev_iload_n rfl rfl rfl ?_
  refine ev_i2l rfl rfl ?_
  refine ev_lconst (v := 1) rfl rfl rfl ?_
  refine ev_ldc2 rfl rfl kc_X10_344 ?_
  refine ev_S3D rfl rfl lk_X10_124 st_X10_in rfl rfl (c_inw _ _ _ (1) (99) (by decide) (by decide)) ?_
  refine ev_if_ne rfl rfl (fun c_9 => ?_) (fun c_9 => ?_)
  · refine ev_aload_n rfl rfl rfl ?_
    refine ev_getI rfl rfl fl_X10_109 rfl rfl rfl ?_
    try simp (disch := omega) only [ev_rd1, ev_rd2, ev_rd3, ev_rc1, k_keep_ne]
    refine ev_istore_n rfl rfl rfl rfl ?_
    dsimp only [List.set]
    refine ev_aload_n rfl rfl rfl ?_
    refine ev_iload_n rfl rfl rfl ?_
    refine ev_putI rfl rfl fl_X10_109 rfl rfl rfl rfl rfl ?_
    refine ev_iload_n rfl rfl rfl ?_
    exact ev_iret rfl rfl rfl (⟨congrArg (fun z => some (Value.int z)) (by simp only [if_neg c_9]), rfl, by simp only [if_neg c_9]⟩)
  · refine ev_iconst (v := (-1)) rfl rfl (by decide) ?_
    exact ev_iret rfl rfl rfl (⟨congrArg (fun z => some (Value.int z)) (by simp only [if_pos c_9]), rfl, by simp only [if_pos c_9]⟩)

def s_mw (h : Hp) (lo hi : Int32) : Nat → Int32
  | 0 => hi - lo
  | k + 1 => if h 90 k ≤ lo then s_mw h lo hi k + 0 else if hi < h 90 k then s_mw h lo hi k + 0 else s_mw h lo hi k + h 91 k
def o_mw (h : Hp) (m : Nat) (x y : Int32) : Int32 := s_mw h (if y ≤ x then y else x) (if y ≤ x then x else y) m

set_option maxRecDepth 100000 in
set_option maxHeartbeats 4000000 in
theorem l_mway (L : Nat) (b : Bool) (h : Hp) (m : Nat) (hm0 : m ≤ 6) (hm : h 63 48 = nI m) (x y lo hi : Int32) : ∀ t i : Nat, i + t = m → EvQ mi_X10_farOf 32 [some (.ref 63), some (.int x), some (.int y), some (.int lo), some (.int hi), some (.int (s_mw h lo hi i)), some (.int (nI i))] [] (G0 L b) h 0 0 (fun v G' h' => v = some (.int (s_mw h lo hi m)) ∧ G' = G0 L b ∧ h' = h) := by
  intro t
  induction t with
  | zero =>
    intro i hi
    have hi2 : i = m := by omega
    subst hi2
    refine ev_iload rfl rfl rfl ?_
    refine ev_aload_n rfl rfl rfl ?_
    refine ev_getI rfl rfl fl_X10_349 rfl rfl rfl ?_
    refine ev_icmp_ge rfl rfl (fun c_38 => ?_) (fun z_ => absurd (by rw [hm]; exact Int32.le_refl _) z_)
    refine ev_iload rfl rfl rfl ?_
    exact ev_iret rfl rfl rfl (⟨rfl, rfl, rfl⟩)
  | succ t ih =>
    intro i hi
    refine ev_iload rfl rfl rfl ?_
    refine ev_aload_n rfl rfl rfl ?_
    refine ev_getI rfl rfl fl_X10_349 rfl rfl rfl ?_
    refine ev_icmp_ge rfl rfl (fun z_ => absurd z_ (by rw [hm]; exact nI_ge (by omega) (by omega))) (fun c_38 => ?_)
    refine ev_iload rfl rfl rfl ?_
    refine ev_aload_n rfl rfl rfl ?_
    refine ev_getR rfl rfl fl_X10_103 rfl rfl rfl rfl ?_
    refine ev_iload rfl rfl rfl ?_
    refine ev_iald rfl rfl rfl (vp_in_nI (by omega) (by decide)) (nI_clamp (by omega)) ?_
    refine ev_iload_n rfl rfl rfl ?_
    refine ev_icmp_le rfl rfl (fun c_51 => ?_) (fun c_51 => ?_)
    · refine ev_iconst (v := 0) rfl rfl (by decide) ?_
      refine ev_iadd rfl rfl ?_
      refine ev_istore rfl rfl rfl rfl ?_
      dsimp only [List.set]
      refine ev_iinc (y := 1) rfl rfl rfl (by decide) rfl rfl ?_
      dsimp only [List.set]
      refine ev_goto rfl rfl ?_
      have z_ := ih (i + 1) (by omega)
      simp only [s_mw, if_neg c_38, if_pos c_51] at z_
      rw [nI_1 i]
      exact z_
    · refine ev_aload_n rfl rfl rfl ?_
      refine ev_getR rfl rfl fl_X10_103 rfl rfl rfl rfl ?_
      refine ev_iload rfl rfl rfl ?_
      refine ev_iald rfl rfl rfl (vp_in_nI (by omega) (by decide)) (nI_clamp (by omega)) ?_
      refine ev_iload rfl rfl rfl ?_
      refine ev_icmp_gt rfl rfl (fun c_63 => ?_) (fun c_63 => ?_)
      · refine ev_iconst (v := 0) rfl rfl (by decide) ?_
        refine ev_iadd rfl rfl ?_
        refine ev_istore rfl rfl rfl rfl ?_
        dsimp only [List.set]
        refine ev_iinc (y := 1) rfl rfl rfl (by decide) rfl rfl ?_
        dsimp only [List.set]
        refine ev_goto rfl rfl ?_
        have z_ := ih (i + 1) (by omega)
        simp only [s_mw, if_neg c_38, if_neg c_51, if_pos c_63] at z_
        rw [nI_1 i]
        exact z_
      · refine ev_aload_n rfl rfl rfl ?_
        refine ev_getR rfl rfl fl_X10_106 rfl rfl rfl rfl ?_
        refine ev_iload rfl rfl rfl ?_
        refine ev_iald rfl rfl rfl (vp_in_nI (by omega) (by decide)) (nI_clamp (by omega)) ?_
        refine ev_goto rfl rfl ?_
        refine ev_iadd rfl rfl ?_
        refine ev_istore rfl rfl rfl rfl ?_
        dsimp only [List.set]
        refine ev_iinc (y := 1) rfl rfl rfl (by decide) rfl rfl ?_
        dsimp only [List.set]
        refine ev_goto rfl rfl ?_
        have z_ := ih (i + 1) (by omega)
        simp only [s_mw, if_neg c_38, if_neg c_51, if_neg c_63] at z_
        rw [nI_1 i]
        exact z_

set_option maxRecDepth 100000 in
set_option maxHeartbeats 4000000 in
theorem c_mfarOf (L : Nat) (b : Bool) (h : Hp) (m : Nat) (hm0 : m ≤ 6) (hm : h 63 48 = nI m) (x y : Int32) : EvD mi_X10_farOf [.ref 63, .int x, .int y] (G0 L b) h (o_mw h m x y) (h) := by
  refine EvD.of (lo := [some (.ref 63), some (.int x), some (.int y), none, none, none, none]) pf_X10_farOf ok_X10_farOf rfl rfl ?_
  refine ev_iload_n rfl rfl rfl ?_
  refine ev_iload_n rfl rfl rfl ?_
  refine ev_icmp_ge rfl rfl (fun c_2 => ?_) (fun c_2 => ?_)
  · refine ev_iload_n rfl rfl rfl ?_
    refine ev_istore_n rfl rfl rfl rfl ?_
    dsimp only [List.set]
    refine ev_iload_n rfl rfl rfl ?_
    refine ev_iload_n rfl rfl rfl ?_
    refine ev_icmp_ge rfl rfl (fun c_13 => ?_) (fun c_13 => ?_)
    · refine ev_iload_n rfl rfl rfl ?_
      refine ev_istore rfl rfl rfl rfl ?_
      dsimp only [List.set]
      refine ev_iload rfl rfl rfl ?_
      refine ev_iload_n rfl rfl rfl ?_
      refine ev_isub rfl rfl ?_
      refine ev_istore rfl rfl rfl rfl ?_
      dsimp only [List.set]
      refine ev_iconst (v := 0) rfl rfl (by decide) ?_
      refine ev_istore rfl rfl rfl rfl ?_
      dsimp only [List.set]
      first
        | (simp only [o_mw, if_pos c_2, if_pos c_13]; exact l_mway L b h m hm0 hm x y _ _ m 0 (by omega))
        | contradiction
    · refine ev_iload_n rfl rfl rfl ?_
      refine ev_goto rfl rfl ?_
      refine ev_istore rfl rfl rfl rfl ?_
      dsimp only [List.set]
      refine ev_iload rfl rfl rfl ?_
      refine ev_iload_n rfl rfl rfl ?_
      refine ev_isub rfl rfl ?_
      refine ev_istore rfl rfl rfl rfl ?_
      dsimp only [List.set]
      refine ev_iconst (v := 0) rfl rfl (by decide) ?_
      refine ev_istore rfl rfl rfl rfl ?_
      dsimp only [List.set]
      first
        | (simp only [o_mw, if_pos c_2, if_neg c_13]; exact l_mway L b h m hm0 hm x y _ _ m 0 (by omega))
        | contradiction
  · refine ev_iload_n rfl rfl rfl ?_
    refine ev_goto rfl rfl ?_
    refine ev_istore_n rfl rfl rfl rfl ?_
    dsimp only [List.set]
    refine ev_iload_n rfl rfl rfl ?_
    refine ev_iload_n rfl rfl rfl ?_
    refine ev_icmp_ge rfl rfl (fun c_13 => ?_) (fun c_13 => ?_)
    · refine ev_iload_n rfl rfl rfl ?_
      refine ev_istore rfl rfl rfl rfl ?_
      dsimp only [List.set]
      refine ev_iload rfl rfl rfl ?_
      refine ev_iload_n rfl rfl rfl ?_
      refine ev_isub rfl rfl ?_
      refine ev_istore rfl rfl rfl rfl ?_
      dsimp only [List.set]
      refine ev_iconst (v := 0) rfl rfl (by decide) ?_
      refine ev_istore rfl rfl rfl rfl ?_
      dsimp only [List.set]
      first
        | (simp only [o_mw, if_neg c_2, if_pos c_13]; exact l_mway L b h m hm0 hm x y _ _ m 0 (by omega))
        | contradiction
    · refine ev_iload_n rfl rfl rfl ?_
      refine ev_goto rfl rfl ?_
      refine ev_istore rfl rfl rfl rfl ?_
      dsimp only [List.set]
      refine ev_iload rfl rfl rfl ?_
      refine ev_iload_n rfl rfl rfl ?_
      refine ev_isub rfl rfl ?_
      refine ev_istore rfl rfl rfl rfl ?_
      dsimp only [List.set]
      refine ev_iconst (v := 0) rfl rfl (by decide) ?_
      refine ev_istore rfl rfl rfl rfl ?_
      dsimp only [List.set]
      first
        | (simp only [o_mw, if_neg c_2, if_neg c_13]; exact l_mway L b h m hm0 hm x y _ _ m 0 (by omega))
        | contradiction

set_option maxRecDepth 100000 in
set_option maxHeartbeats 4000000 in
theorem c_mfar (L : Nat) (b : Bool) (h : Hp) (m : Nat) (hm0 : m ≤ 6) (hm : h 63 48 = nI m) (x y : Int32) : EvD mi_X10_far [.ref 63, .int x, .int y] (G0 L b) h (if z_wi x 0 999 = 0 then -1 else if z_wi y 0 999 = 0 then -1 else o_mw h m x y) (h) := by
  refine EvD.of (lo := [some (.ref 63), some (.int x), some (.int y)]) pf_X10_far ok_X10_far rfl rfl ?_
  refine ev_iload_n rfl rfl rfl ?_
  refine ev_i2l rfl rfl ?_
  refine ev_lconst (v := 0) rfl rfl rfl ?_
  refine ev_ldc2 rfl rfl kc_X10_342 ?_
  refine ev_S3D rfl rfl lk_X10_124 st_X10_in rfl rfl (c_inw _ _ _ (0) (999) (by decide) (by decide)) ?_
  refine ev_if_eq rfl rfl (fun c_9 => ?_) (fun c_9 => ?_)
  · refine ev_iconst (v := (-1)) rfl rfl (by decide) ?_
    exact ev_iret rfl rfl rfl (⟨congrArg (fun z => some (Value.int z)) (by simp only [if_pos c_9]), rfl, rfl⟩)
  · refine ev_iload_n rfl rfl rfl ?_
    refine ev_i2l rfl rfl ?_
    refine ev_lconst (v := 0) rfl rfl rfl ?_
    refine ev_ldc2 rfl rfl kc_X10_342 ?_
    refine ev_S3D rfl rfl lk_X10_124 st_X10_in rfl rfl (c_inw _ _ _ (0) (999) (by decide) (by decide)) ?_
    refine ev_if_eq rfl rfl (fun c_21 => ?_) (fun c_21 => ?_)
    · refine ev_iconst (v := (-1)) rfl rfl (by decide) ?_
      exact ev_iret rfl rfl rfl (⟨congrArg (fun z => some (Value.int z)) (by simp only [if_neg c_9, if_pos c_21]), rfl, rfl⟩)
    · refine ev_aload_n rfl rfl rfl ?_
      refine ev_iload_n rfl rfl rfl ?_
      refine ev_iload_n rfl rfl rfl ?_
      refine ev_V2D rfl rfl lk_X10_352 vt_X10_farOf rfl rfl rfl rfl rfl (c_mfarOf _ _ _ m hm0 hm _ _) ?_
      refine ev_goto rfl rfl ?_
      exact ev_iret rfl rfl rfl (⟨congrArg (fun z => some (Value.int z)) (by simp only [if_neg c_9, if_neg c_21]), rfl, rfl⟩)

theorem z_wi_has {q n : Int32} (hn : B n 0 2147483647) : z_wi q 0 (n - 1) = z_has q n := by
  unfold z_wi z_has
  by_cases c : q < 0
  · rw [if_pos c, if_pos c]
  · rw [if_neg c, if_neg c]
    have e1 : (1 : Int32).toInt = 1 := by decide
    have h1 := hn.1
    have h2 := hn.2
    have e := w_sub (x := n) (y := 1) (by omega) (by omega)
    have e2 : (n - 1 < q) ↔ n ≤ q := by
      rw [Int32.lt_iff_toInt_lt, Int32.le_iff_toInt_le, e, e1]
      omega
    by_cases c2 : n ≤ q
    · rw [if_pos c2, if_pos (e2.mpr c2)]
    · rw [if_neg c2, if_neg (fun z => c2 (e2.mp z))]
def o_mh (h : Hp) (m n : Nat) (p : Int32) : Int32 := h 89 n + o_mw h m (h 88 n) p / h 63 51
theorem z_spd {h : Hp} (hB : Bx h) : ¬ h 63 51 = 0 := by
  have p5 : B (h 63 51) 1 99 := hB 63 51
  exact p5.ne0 (by decide)
def rmH (h : Hp) (m : Nat) (q i p : Int32) : Int32 := if z_has q (h 63 45) = 0 then -1 else if z_wi i 0 99 = 0 then -1 else if z_wi p 0 999 = 0 then -1 else i + o_mh h m q.toNatClampNeg p

set_option maxRecDepth 100000 in
set_option maxHeartbeats 4000000 in
theorem c_mheardAt (L : Nat) (b : Bool) (h : Hp) (hB : Bx h) (m : Nat) (hm0 : m ≤ 6) (hm : h 63 48 = nI m) (n : Nat) (hn : n < 4) (p : Int32) : EvD mi_X10_heardAt [.ref 63, .int (nI n), .int p] (G0 L b) h (o_mh h m n p) (h) := by
  refine EvD.of (lo := [some (.ref 63), some (.int (nI n)), some (.int p)]) pf_X10_heardAt ok_X10_heardAt rfl rfl ?_
  refine ev_aload_n rfl rfl rfl ?_
  refine ev_getR rfl rfl fl_X10_100 rfl rfl rfl rfl ?_
  refine ev_iload_n rfl rfl rfl ?_
  refine ev_iald rfl rfl rfl (vp_in_nI (by omega) (by decide)) (nI_clamp (by omega)) ?_
  refine ev_aload_n rfl rfl rfl ?_
  refine ev_aload_n rfl rfl rfl ?_
  refine ev_getR rfl rfl fl_X10_97 rfl rfl rfl rfl ?_
  refine ev_iload_n rfl rfl rfl ?_
  refine ev_iald rfl rfl rfl (vp_in_nI (by omega) (by decide)) (nI_clamp (by omega)) ?_
  refine ev_iload_n rfl rfl rfl ?_
  refine ev_V2D rfl rfl lk_X10_352 vt_X10_farOf rfl rfl rfl rfl rfl (c_mfarOf _ _ _ m hm0 hm _ _) ?_
  refine ev_aload_n rfl rfl rfl ?_
  refine ev_getI rfl rfl fl_X10_109 rfl rfl rfl ?_
  refine ev_idiv rfl rfl (z_spd hB) ?_
  refine ev_iadd rfl rfl ?_
  exact ev_iret rfl rfl rfl (⟨rfl, rfl, rfl⟩)

set_option maxRecDepth 100000 in
set_option maxHeartbeats 4000000 in
theorem c_mheard (L : Nat) (b : Bool) (h : Hp) (hB : Bx h) (m : Nat) (hm0 : m ≤ 6) (hm : h 63 48 = nI m) (mb : Nat) (hb0 : mb ≤ 4) (hb : h 63 45 = nI mb) (q i p : Int32) : EvD mi_X10_heard [.ref 63, .int q, .int i, .int p] (G0 L b) h (rmH h m q i p) (h) := by
  refine EvD.of (lo := [some (.ref 63), some (.int q), some (.int i), some (.int p)]) pf_X10_heard ok_X10_heard rfl rfl ?_
  refine ev_iload_n rfl rfl rfl ?_
  refine ev_i2l rfl rfl ?_
  refine ev_lconst (v := 0) rfl rfl rfl ?_
  refine ev_aload_n rfl rfl rfl ?_
  refine ev_getI rfl rfl fl_X10_346 rfl rfl rfl ?_
  refine ev_iconst (v := 1) rfl rfl (by decide) ?_
  refine ev_isub rfl rfl ?_
  refine ev_i2l rfl rfl ?_
  refine ev_S3D rfl rfl lk_X10_124 st_X10_in rfl rfl (c_inw _ _ _ (0) (h 63 45 - 1) (by decide) rfl) ?_
  rw [z_wi_has ((hB 63 45 : B (h 63 45) 0 4).mono (by decide) (by decide))]
  refine ev_if_eq rfl rfl (fun c_13 => ?_) (fun c_13 => ?_)
  · refine ev_iconst (v := (-1)) rfl rfl (by decide) ?_
    exact ev_iret rfl rfl rfl (⟨congrArg (fun z => some (Value.int z)) (by first | (simp only [rmH, if_pos c_13, ej]; done) | (simp only [rmH, if_pos c_13]; done)), rfl, rfl⟩)
  · refine ev_iload_n rfl rfl rfl ?_
    refine ev_i2l rfl rfl ?_
    refine ev_lconst (v := 0) rfl rfl rfl ?_
    refine ev_ldc2 rfl rfl kc_X10_344 ?_
    refine ev_S3D rfl rfl lk_X10_124 st_X10_in rfl rfl (c_inw _ _ _ (0) (99) (by decide) (by decide)) ?_
    refine ev_if_eq rfl rfl (fun c_25 => ?_) (fun c_25 => ?_)
    · refine ev_iconst (v := (-1)) rfl rfl (by decide) ?_
      exact ev_iret rfl rfl rfl (⟨congrArg (fun z => some (Value.int z)) (by first | (simp only [rmH, if_neg c_13, if_pos c_25, ej]; done) | (simp only [rmH, if_neg c_13, if_pos c_25]; done)), rfl, rfl⟩)
    · refine ev_iload_n rfl rfl rfl ?_
      refine ev_i2l rfl rfl ?_
      refine ev_lconst (v := 0) rfl rfl rfl ?_
      refine ev_ldc2 rfl rfl kc_X10_342 ?_
      refine ev_S3D rfl rfl lk_X10_124 st_X10_in rfl rfl (c_inw _ _ _ (0) (999) (by decide) (by decide)) ?_
      refine ev_if_eq rfl rfl (fun c_37 => ?_) (fun c_37 => ?_)
      · refine ev_iconst (v := (-1)) rfl rfl (by decide) ?_
        exact ev_iret rfl rfl rfl (⟨congrArg (fun z => some (Value.int z)) (by first | (simp only [rmH, if_neg c_13, if_neg c_25, if_pos c_37, ej]; done) | (simp only [rmH, if_neg c_13, if_neg c_25, if_pos c_37]; done)), rfl, rfl⟩)
      · obtain ⟨j, hj, rfl⟩ := z_hask hb hb0 (by decide) c_13
        have ej := nI_clamp (show j < 2 ^ 31 by omega)
        refine ev_iload_n rfl rfl rfl ?_
        refine ev_aload_n rfl rfl rfl ?_
        refine ev_iload_n rfl rfl rfl ?_
        refine ev_iload_n rfl rfl rfl ?_
        refine ev_V2D rfl rfl lk_X10_355 vt_X10_heardAt rfl rfl rfl rfl rfl (c_mheardAt _ _ _ hB m hm0 hm j (by omega) _) ?_
        refine ev_iadd rfl rfl ?_
        refine ev_goto rfl rfl ?_
        exact ev_iret rfl rfl rfl (⟨congrArg (fun z => some (Value.int z)) (by first | (simp only [rmH, if_neg c_13, if_neg c_25, if_neg c_37, ej]; done) | (simp only [rmH, if_neg c_13, if_neg c_25, if_neg c_37]; done)), rfl, rfl⟩)

theorem s_bd_iff (h : Hp) (p : Int32) : ∀ t i, s_bd h p i t = 0 ↔ ∀ j, i ≤ j → j < i + t → ¬ h 53 j = p
  | 0, i => ⟨fun _ j h1 h2 => absurd h2 (by omega), fun _ => rfl⟩
  | t + 1, i => by
    unfold s_bd
    by_cases c : h 53 i = p
    · rw [if_pos c]
      exact ⟨fun z => absurd z (by decide), fun z => absurd c (z i (Nat.le_refl i) (by omega))⟩
    · rw [if_neg c, s_bd_iff h p t (i + 1)]
      refine ⟨fun z j h1 h2 => ?_, fun z j h1 h2 => z j (by omega) (by omega)⟩
      by_cases e : j = i
      · rw [e]; exact c
      · exact z j (by omega) (by omega)
theorem s_mb_iff (h : Hp) (p : Int32) : ∀ k, ¬ s_mb h p 1 k = 0 ↔ ∀ j, j < k → ¬ h 90 j = p
  | 0 => ⟨fun _ j h1 => absurd h1 (by omega), fun _ => by unfold s_mb; decide⟩
  | k + 1 => by
    have ih := s_mb_iff h p k
    unfold s_mb
    by_cases c : s_mb h p 1 k = 0
    · rw [if_pos c]
      exact ⟨fun z => absurd rfl z, fun z => absurd c (ih.mpr (fun j hj => z j (by omega)))⟩
    · rw [if_neg c]
      have hz := ih.mp c
      by_cases c2 : h 90 k = p
      · rw [if_pos c2]
        exact ⟨fun z => absurd rfl z, fun z => absurd c2 (z k (by omega))⟩
      · rw [if_neg c2]
        refine ⟨fun _ j hj => ?_, fun _ => by decide⟩
        by_cases e : j = k
        · rw [e]; exact c2
        · exact hz j (by omega)
theorem s_mb_0 (h : Hp) (p : Int32) : ∀ k, s_mb h p 0 k = 0
  | 0 => rfl
  | k + 1 => by unfold s_mb; rw [if_pos (s_mb_0 h p k)]
theorem s_way_eq {h : Hp} (hR : RV h) (lo hi : Int32) : ∀ k, s_way h lo hi k = s_mw h lo hi k
  | 0 => rfl
  | k + 1 => by
    unfold s_way s_mw
    rw [hR.2.2.2.2.2.1 k, hR.2.2.2.2.2.2 k, s_way_eq hR lo hi k, Int32.add_zero]
theorem o_way_eq {h : Hp} (hR : RV h) (m : Nat) (x y : Int32) : o_way h m x y = o_mw h m x y := by
  have e : z_min x y = (if y ≤ x then y else x) ∧ z_max x y = (if y ≤ x then x else y) := by
    unfold z_min z_max
    by_cases c : y < x
    · rw [if_pos c, if_pos (Int32.le_of_lt c), if_neg (Int32.not_lt.mpr (Int32.le_of_lt c)), if_pos (Int32.le_of_lt c)]
      exact ⟨rfl, rfl⟩
    · rw [if_neg c]
      have c1 := Int32.not_lt.mp c
      by_cases c2 : y ≤ x
      · have e := Int32.le_antisymm c2 c1
        subst e
        rw [if_pos c2, if_neg c]
        exact ⟨rfl, rfl⟩
      · rw [if_neg c2, if_neg c2, if_pos (Int32.not_le.mp c2)]
        exact ⟨rfl, rfl⟩
  unfold o_way o_mw
  rw [e.1, e.2]
  exact s_way_eq hR _ _ m
theorem o_first_eq {h : Hp} (hB : Bx h) (hR : RV h) (m n : Nat) (p : Int32) : o_first h m n p = o_mh h m n p := by
  have p5 : B (h 63 51) 1 99 := hB 63 51
  have e : z_max 1 (h 63 51) = h 63 51 := by
    unfold z_max
    by_cases c : (1 : Int32) < h 63 51
    · rw [if_pos c]
    · rw [if_neg c]
      have e1 : (1 : Int32).toInt = 1 := by decide
      have c1 := w_nlt c
      have c2 := p5.1
      exact Int32.toInt_inj.mp (by omega)
  unfold o_first o_mh
  rw [hR.2.2.2.2.1 n, hR.2.2.2.1 n, hR.2.2.1, e, o_way_eq hR]

def kcB (h : Hp) (p l : Int32) : Hp := if z_wi p 0 999 = 0 then h else if z_wi l 0 99 = 0 then h else k_boat h (h 50 2).toNatClampNeg p l
def rcB (h : Hp) (p l : Int32) : Int32 := if z_wi p 0 999 = 0 then -1 else if z_wi l 0 99 = 0 then -1 else z_addB (h 50 2) 4
theorem w_boatZ (L : Nat) (b : Bool) (h : Hp) (hB : Bx h) (p l : Int32) : EvI mi_X9_boat [.ref 1, .int p, .int l] (G0 L b) h (fun r z => r = rcB h p l ∧ z = kcB h p l) [(50, 2), (51, 999), (52, 999)] := by
  have p5 : B (h 50 2) 0 4 := hB 50 2
  refine (x_boat L b h _ (B.nI (u := 4) p5).2 (B.nI (u := 4) p5).1 p l).ix ?_
  split
  · exact JW.refl hB
  · split
    · exact JW.refl hB
    · unfold k_boat
      split
      · rename_i q3
        have b1 : B (h 50 2) 0 3 := R_ltX p5 (by decide : B 4 4 4) q3 (by decide)
        exact (((JW.refl hB).set rfl (B.any _)).set rfl (B.any _)).set rfl (B.mono (B.add b1 (by decide : B 1 1 1) (by decide) (by decide)).1 (by decide) (by decide))
      · exact JW.refl hB
theorem w_mboatZ (L : Nat) (b : Bool) (h : Hp) (hB : Bx h) (p l : Int32) : EvI mi_X10_boat [.ref 63, .int p, .int l] (G0 L b) h (fun r z => r = rmB (h 63 45) p l ∧ z = kmB h p l) [(63, 45), (88, 999), (89, 999)] := by
  have p5 : B (h 63 45) 0 4 := hB 63 45
  refine (c_mboatE L b h hB p l).ix ?_
  unfold kmB
  split
  · exact JW.refl hB
  · split
    · exact JW.refl hB
    · split
      · exact JW.refl hB
      · rename_i q3
        have b1 : B (h 63 45) 0 3 := R_neU p5 (by decide : B 4 4 4) q3 (by decide)
        exact (((JW.refl hB).set rfl (B.any _)).set rfl (B.any _)).set rfl (B.mono (B.add b1 (by decide : B 1 1 1) (by decide) (by decide)).1 (by decide) (by decide))
theorem rel_boat {h : Hp} (hB : Bx h) (hR : RV h) (p l : Int32) : rcB h p l = rmB (kcB h p l 63 45) p l ∧ RV (kmB (kcB h p l) p l) := by
  have p5 : B (h 50 2) 0 4 := hB 50 2
  obtain ⟨r1, r2, r3, r4, r5, r6, r7⟩ := hR
  have hR : RV h := ⟨r1, r2, r3, r4, r5, r6, r7⟩
  unfold rcB kcB rmB kmB
  by_cases q1 : z_wi p 0 999 = 0
  · simp only [if_pos q1]; exact ⟨trivial, hR⟩
  · simp only [if_neg q1]
    by_cases q2 : z_wi l 0 99 = 0
    · simp only [if_pos q2]; exact ⟨trivial, hR⟩
    · simp only [if_neg q2]
      unfold z_addB k_boat
      by_cases q3 : h 50 2 < 4
      · have q4 : ¬ h 63 45 = 4 := fun e => by rw [r1, e] at q3; exact absurd q3 (by decide)
        simp (disch := decide) only [if_pos q3, ev_rd2, if_neg q4]
        refine ⟨by rw [r1], ?_, ?_, ?_, fun j => ?_, fun j => ?_, fun j => ?_, fun j => ?_⟩ <;> simp (disch := decide) only [ev_rd1, ev_rd2, ev_rd3, ev_sj, r1, r2, r3, r4, r5, r6, r7]
      · have q4 : h 63 45 = 4 := by
          have e4 : (4 : Int32).toInt = 4 := by decide
          have z := w_nlt q3
          have z2 := p5.2
          rw [← r1]
          exact Int32.toInt_inj.mp (by omega)
        simp only [if_neg q3, if_pos q4]
        exact ⟨trivial, hR⟩
def kcN (h : Hp) (p l : Int32) : Hp := if z_wi p 0 999 = 0 then h else if z_wi l 1 99 = 0 then h else if s_bd h p 0 (h 50 5).toNatClampNeg = 0 then k_bend h (h 50 5).toNatClampNeg p l else h
def rcN (h : Hp) (p l : Int32) : Int32 := if z_wi p 0 999 = 0 then -1 else if z_wi l 1 99 = 0 then -1 else if s_bd h p 0 (h 50 5).toNatClampNeg = 0 then z_addN (h 50 5) else -1
theorem w_bendZ (L : Nat) (b : Bool) (h : Hp) (hB : Bx h) (p l : Int32) : EvI mi_X9_bend [.ref 1, .int p, .int l] (G0 L b) h (fun r z => r = rcN h p l ∧ z = kcN h p l) [(50, 5), (53, 999), (54, 999)] := by
  have p5 : B (h 50 5) 0 6 := hB 50 5
  refine (x_bend L b h _ (B.nI (u := 6) p5).2 (B.nI (u := 6) p5).1 p l).ix ?_
  split
  · exact JW.refl hB
  · split
    · exact JW.refl hB
    · split
      · unfold k_bend
        split
        · rename_i q3
          have b1 : B (h 50 5) 0 5 := R_ltX p5 (by decide : B 6 6 6) q3 (by decide)
          exact (((JW.refl hB).set rfl (B.any _)).set rfl (B.any _)).set rfl (B.mono (B.add b1 (by decide : B 1 1 1) (by decide) (by decide)).1 (by decide) (by decide))
        · exact JW.refl hB
      · exact JW.refl hB
theorem w_mbendZ (L : Nat) (b : Bool) (h : Hp) (hB : Bx h) (p l : Int32) : EvI mi_X10_bend [.ref 63, .int p, .int l] (G0 L b) h (fun r z => r = rmN h (h 63 48).toNatClampNeg p (z_g p l) ∧ z = kmN h (h 63 48).toNatClampNeg p l (z_g p l)) [(63, 48), (90, 999), (91, 999)] := by
  have p5 : B (h 63 48) 0 6 := hB 63 48
  refine (c_mbend L b h hB _ (B.nI (u := 6) p5).2 (B.nI (u := 6) p5).1 p l).ix ?_
  unfold kmN
  split
  · exact JW.refl hB
  · split
    · exact JW.refl hB
    · rename_i q3
      have b1 : B (h 63 48) 0 5 := R_neU p5 (by decide : B 6 6 6) q3 (by decide)
      exact (((JW.refl hB).set rfl (B.any _)).set rfl (B.any _)).set rfl (B.mono (B.add b1 (by decide : B 1 1 1) (by decide) (by decide)).1 (by decide) (by decide))
theorem rel_bend {h : Hp} (hB : Bx h) (hR : RV h) (p l : Int32) : rcN h p l = rmN (kcN h p l) (kcN h p l 63 48).toNatClampNeg p (z_g p l) ∧ RV (kmN (kcN h p l) (kcN h p l 63 48).toNatClampNeg p l (z_g p l)) := by
  have p5 : B (h 50 5) 0 6 := hB 50 5
  obtain ⟨r1, r2, r3, r4, r5, r6, r7⟩ := hR
  have hR : RV h := ⟨r1, r2, r3, r4, r5, r6, r7⟩
  unfold rcN kcN z_g
  by_cases q1 : z_wi p 0 999 = 0
  · simp only [if_pos q1]
    unfold rmN kmN
    simp only [if_pos (s_mb_0 h p _)]
    exact ⟨trivial, hR⟩
  · simp only [if_neg q1]
    by_cases q2 : z_wi l 1 99 = 0
    · simp only [if_pos q2]
      unfold rmN kmN
      simp only [if_pos (s_mb_0 h p _)]
      exact ⟨trivial, hR⟩
    · simp only [if_neg q2]
      by_cases qs : s_bd h p 0 (h 50 5).toNatClampNeg = 0
      · simp only [if_pos qs]
        have hz := (s_bd_iff h p _ 0).mp qs
        unfold rmN kmN z_addN k_bend
        by_cases q3 : h 50 5 < 6
        · have q4 : ¬ h 63 48 = 6 := fun e => by rw [r2, e] at q3; exact absurd q3 (by decide)
          simp only [if_pos q3]
          have e48 : ev_set (ev_set (ev_set h 53 (h 50 5).toNatClampNeg p) 54 (h 50 5).toNatClampNeg l) 50 5 (h 50 5 + 1) 63 48 = h 63 48 := by
            simp (disch := decide) only [ev_rd2]
          rw [e48]
          have qm : ¬ s_mb (ev_set (ev_set (ev_set h 53 (h 50 5).toNatClampNeg p) 54 (h 50 5).toNatClampNeg l) 50 5 (h 50 5 + 1)) p 1 (h 63 48).toNatClampNeg = 0 := (s_mb_iff _ p _).mpr (fun j hj => by
            simp (disch := decide) only [ev_rd2]
            rw [← r6 j]
            exact hz j (Nat.zero_le j) (by rw [r2]; omega))
          simp only [if_neg qm, if_neg q4]
          refine ⟨by rw [r2], ?_, ?_, ?_, fun j => ?_, fun j => ?_, fun j => ?_, fun j => ?_⟩ <;> simp (disch := decide) only [ev_rd1, ev_rd2, ev_rd3, ev_sj, r1, r2, r3, r4, r5, r6, r7]
        · have q4 : h 63 48 = 6 := by
            have e4 : (6 : Int32).toInt = 6 := by decide
            have z := w_nlt q3
            have z2 := p5.2
            rw [← r2]
            exact Int32.toInt_inj.mp (by omega)
          have qm : ¬ s_mb h p 1 (h 63 48).toNatClampNeg = 0 := (s_mb_iff _ p _).mpr (fun j hj => by
            rw [← r6 j]
            exact hz j (Nat.zero_le j) (by rw [r2]; omega))
          simp only [if_neg q3, if_neg qm, if_pos q4]
          exact ⟨trivial, hR⟩
      · simp only [if_neg qs]
        have qm : s_mb h p 1 (h 63 48).toNatClampNeg = 0 := Decidable.byContradiction (fun z => qs ((s_bd_iff h p _ 0).mpr (fun j h1 h2 => by
          rw [r6 j]
          exact (s_mb_iff h p _).mp z j (by rw [r2] at h2; omega))))
        unfold rmN kmN
        simp only [if_pos qm]
        exact ⟨trivial, hR⟩
def kcS (h : Hp) (v : Int32) : Hp := if z_wi v 1 99 = 0 then h else ev_set h 50 6 v
def rcS (h : Hp) (v : Int32) : Int32 := if z_wi v 1 99 = 0 then -1 else h 50 6
def kmS (h : Hp) (v : Int32) : Hp := if z_wi v 1 99 = 0 then h else ev_set h 63 51 v
def rmS (h : Hp) (v : Int32) : Int32 := if z_wi v 1 99 = 0 then -1 else h 63 51
theorem w_speedZ (L : Nat) (b : Bool) (h : Hp) (hB : Bx h) (v : Int32) : EvI mi_X9_speed [.ref 1, .int v] (G0 L b) h (fun r z => r = rcS h v ∧ z = kcS h v) [(50, 6)] := by
  refine (x_speed L b h v).ix ?_
  split
  · exact JW.refl hB
  · exact (JW.refl hB).set rfl (B.any _)
theorem w_mspeedZ (L : Nat) (b : Bool) (h : Hp) (hB : Bx h) (v : Int32) : EvI mi_X10_speed [.ref 63, .int v] (G0 L b) h (fun r z => r = rmS h v ∧ z = kmS h v) [(63, 51)] := by
  refine (c_mspeed L b h v).ix ?_
  split
  · exact JW.refl hB
  · rename_i q
    exact (JW.refl hB).set rfl (z_wi_B (by decide : B 1 1 1) (by decide : B 99 99 99) q)
theorem rel_speed {h : Hp} (_ : Bx h) (hR : RV h) (v : Int32) : rcS h v = rmS (kcS h v) v ∧ RV (kmS (kcS h v) v) := by
  obtain ⟨r1, r2, r3, r4, r5, r6, r7⟩ := hR
  have hR : RV h := ⟨r1, r2, r3, r4, r5, r6, r7⟩
  unfold rcS kcS rmS kmS
  by_cases q1 : z_wi v 1 99 = 0
  · simp only [if_pos q1]; exact ⟨trivial, hR⟩
  · simp only [if_neg q1]
    refine ⟨?_, ?_, ?_, ?_, fun j => ?_, fun j => ?_, fun j => ?_, fun j => ?_⟩ <;> simp (disch := decide) only [ev_rd1, ev_rd2, ev_rd3, ev_sj, r1, r2, r3, r4, r5, r6, r7]
theorem rel_far {h : Hp} (hR : RV h) (x y : Int32) : (if z_wi x 0 999 = 0 then -1 else if z_wi y 0 999 = 0 then -1 else o_way h (h 50 5).toNatClampNeg x y) = (if z_wi x 0 999 = 0 then -1 else if z_wi y 0 999 = 0 then -1 else o_mw h (h 63 48).toNatClampNeg x y) := by
  rw [o_way_eq hR, hR.2.1]
theorem rel_heard {h : Hp} (hB : Bx h) (hR : RV h) (q i p : Int32) : r_heard h (h 50 5).toNatClampNeg q i p = rmH h (h 63 48).toNatClampNeg q i p := by
  unfold r_heard rmH
  rw [o_first_eq hB hR, hR.1, hR.2.1]
def w_in4 (F E : Nat → Int32) : Nat → Int32
  | 0 => 0
  | i + 1 => if F i = E i then w_in4 F E i + 1 else w_in4 F E i
def w_run (F E : Nat → Int32) : Nat → Int32
  | 0 => 0
  | i + 1 => if F i = E i then w_run F E i + 1 else 0
def w_fst (F E : Nat → Int32) : Nat → Int32
  | 0 => -4
  | i + 1 => if F i = E i then (if w_fst F E i = -4 then nI i else w_fst F E i) else w_fst F E i
def w_lst (F E : Nat → Int32) : Nat → Int32
  | 0 => -4
  | i + 1 => if F i = E i then nI i else w_lst F E i
def w_lng (F E : Nat → Int32) : Nat → Int32
  | 0 => 0
  | i + 1 => if F i = E i then z_max (w_lng F E i) (w_run F E i + 1) else w_lng F E i
def v_in4 (F E : Nat → Int32) : Nat → Int32
  | 0 => 0
  | i + 1 => if F i = E i then v_in4 F E i + 1 else v_in4 F E i + 0
def v_lng (F E : Nat → Int32) : Nat → Int32
  | 0 => 0
  | i + 1 => if F i = E i then (if w_run F E i + 1 ≤ v_lng F E i then v_lng F E i else w_run F E i + 1) else (if 0 ≤ v_lng F E i then v_lng F E i else 0)
theorem v_in4_eq (F E : Nat → Int32) : ∀ i, v_in4 F E i = w_in4 F E i
  | 0 => rfl
  | i + 1 => by unfold v_in4 w_in4; rw [v_in4_eq F E i, Int32.add_zero]
theorem w_lng_nn (F E : Nat → Int32) : ∀ i, 0 ≤ w_lng F E i
  | 0 => by unfold w_lng; decide
  | i + 1 => by
    have ih := w_lng_nn F E i
    unfold w_lng
    split
    · unfold z_max
      split
      · rename_i q; exact Int32.le_trans ih (Int32.le_of_lt q)
      · exact ih
    · exact ih
theorem v_lng_eq (F E : Nat → Int32) : ∀ i, v_lng F E i = w_lng F E i
  | 0 => rfl
  | i + 1 => by
    have ih := v_lng_eq F E i
    unfold v_lng w_lng
    rw [ih, if_pos (w_lng_nn F E i)]
    by_cases c : F i = E i
    · rw [if_pos c, if_pos c]
      unfold z_max
      by_cases q : w_lng F E i < w_run F E i + 1
      · rw [if_pos q, if_neg (Int32.not_le.mpr q)]
      · rw [if_neg q, if_pos (Int32.not_lt.mp q)]
    · rw [if_neg c, if_neg c]
/-- walk()'s four numbers -/
def k_w4 (h : Hp) (a f l g : Int32) : Hp := fun i q => if i = 50 then (if q = 7 then a else if q = 8 then f else if q = 9 then l else if q = 10 then g else h i q) else h i q
theorem k_w4_ne {h : Hp} {a f l g : Int32} {i q : Nat} (hi : i ≠ 50) : k_w4 h a f l g i q = h i q := if_neg hi
theorem k_w4_lt {h : Hp} {a f l g : Int32} {q : Nat} (hq : q < 7) : k_w4 h a f l g 50 q = h 50 q := by
  unfold k_w4
  rw [if_pos rfl, if_neg (by omega), if_neg (by omega), if_neg (by omega), if_neg (by omega)]
theorem k_w4_r7 (h : Hp) (a f l g : Int32) : k_w4 h a f l g 50 7 = a := rfl
theorem k_w4_r8 (h : Hp) (a f l g : Int32) : k_w4 h a f l g 50 8 = f := rfl
theorem k_w4_r9 (h : Hp) (a f l g : Int32) : k_w4 h a f l g 50 9 = l := rfl
theorem k_w4_r10 (h : Hp) (a f l g : Int32) : k_w4 h a f l g 50 10 = g := rfl
theorem s_way_w4 (h : Hp) (a f l g lo hi : Int32) : ∀ n, s_way (k_w4 h a f l g) lo hi n = s_way h lo hi n
  | 0 => rfl
  | n + 1 => by
    unfold s_way
    rw [k_w4_ne (by decide), k_w4_ne (by decide), s_way_w4 h a f l g lo hi n]
theorem o_first_w4 (h : Hp) (a f l g : Int32) (m n : Nat) (p : Int32) : o_first (k_w4 h a f l g) m n p = o_first h m n p := by
  unfold o_first o_way
  rw [s_way_w4, k_w4_ne (by decide), k_w4_ne (by decide), k_w4_lt (by decide)]
theorem k_w4_7 (h : Hp) (a f l g x : Int32) : ev_set (k_w4 h a f l g) 50 7 x = k_w4 h x f l g := by
  funext i q
  unfold ev_set k_w4
  by_cases e : i = 50
  · subst e
    by_cases e2 : q = 7
    · subst e2; rfl
    · simp [e2]
  · simp [e]
theorem k_w4_8 (h : Hp) (a f l g x : Int32) : ev_set (k_w4 h a f l g) 50 8 x = k_w4 h a x l g := by
  funext i q
  unfold ev_set k_w4
  by_cases e : i = 50
  · subst e
    by_cases e2 : q = 8
    · subst e2; rfl
    · simp [e2]
  · simp [e]
theorem k_w4_9 (h : Hp) (a f l g x : Int32) : ev_set (k_w4 h a f l g) 50 9 x = k_w4 h a f x g := by
  funext i q
  unfold ev_set k_w4
  by_cases e : i = 50
  · subst e
    by_cases e2 : q = 9
    · subst e2; rfl
    · simp [e2]
  · simp [e]
theorem k_w4_10 (h : Hp) (a f l g x : Int32) : ev_set (k_w4 h a f l g) 50 10 x = k_w4 h a f l x := by
  funext i q
  unfold ev_set k_w4
  by_cases e : i = 50
  · subst e
    by_cases e2 : q = 10
    · subst e2; rfl
    · simp [e2]
  · simp [e]
theorem k_w4_of (h : Hp) (a f l g : Int32) : ev_set (ev_set (ev_set (ev_set h 50 7 a) 50 8 f) 50 9 l) 50 10 g = k_w4 h a f l g := by
  funext i q
  unfold ev_set k_w4
  by_cases e : i = 50
  · subst e
    by_cases e2 : q = 7
    · subst e2; rfl
    · by_cases e3 : q = 8
      · subst e3; rfl
      · by_cases e4 : q = 9
        · subst e4; rfl
        · simp [e2, e3, e4]
  · simp [e]
def oF (h : Hp) (m j : Nat) : Nat → Int32 := fun i => o_first h m j (nI i)
def k_wk (h : Hp) (m j k i : Nat) : Hp := k_w4 h (w_in4 (oF h m j) (oF h m k) i) (w_fst (oF h m j) (oF h m k) i) (w_lst (oF h m j) (oF h m k) i) (w_lng (oF h m j) (oF h m k) i)

set_option maxRecDepth 100000 in
set_option maxHeartbeats 4000000 in
theorem l_walk (L : Nat) (b : Bool) (h : Hp) (m : Nat) (hm0 : m ≤ 6) (hm : h 50 5 = nI m) (j k : Nat) (hj : j < 4) (hk : k < 4) (N : Nat) (hN : N = 1000)  : ∀ t i : Nat, i + t = N → EvQ mi_X3_walk 27 [some (.ref 50), some (.int (nI j)), some (.int (nI k)), some (.int (w_run (oF h m j) (oF h m k) i)), some (.int (nI i))] [] (G0 L b) (k_w4 h (w_in4 (oF h m j) (oF h m k) i) (w_fst (oF h m j) (oF h m k) i) (w_lst (oF h m j) (oF h m k) i) (w_lng (oF h m j) (oF h m k) i)) 0 0 (fun v G' h' => v = none ∧ G' = G0 L b ∧ h' = k_wk h m j k N) := by
  intro t
  induction t with
  | zero =>
    intro i hi
    have hi2 : i = N := by omega
    subst hi2
    refine ev_iload rfl rfl rfl ?_
    refine ev_sipush (v := 999) rfl rfl (by decide) ?_
    refine ev_icmp_gt rfl rfl (fun c_32 => ?_) (fun z_ => absurd (by rw [hN]; decide) z_)
    exact ev_vret rfl rfl trivial (⟨rfl, rfl, rfl⟩)
  | succ t ih =>
    intro i hi
    refine ev_iload rfl rfl rfl ?_
    refine ev_sipush (v := 999) rfl rfl (by decide) ?_
    refine ev_icmp_gt rfl rfl (fun z_ => absurd z_ (show ¬ nI 999 < nI i from fun e_ => absurd ((nI_ltI (by decide) (by omega)).mp e_) (by omega))) (fun c_32 => ?_)
    refine ev_aload_n rfl rfl rfl ?_
    refine ev_iload_n rfl rfl rfl ?_
    refine ev_iload rfl rfl rfl ?_
    refine ev_V2D rfl rfl lk_X3_58 vt_X3_firstHeard rfl rfl rfl rfl rfl (EvD.to (c_firstHeard L b _ m hm0 ((k_w4_lt (by decide)).trans hm) j hj _) (show _ = oF h m j i from o_first_w4 h _ _ _ _ m j _) rfl) ?_
    refine ev_aload_n rfl rfl rfl ?_
    refine ev_iload_n rfl rfl rfl ?_
    refine ev_iload rfl rfl rfl ?_
    refine ev_V2D rfl rfl lk_X3_58 vt_X3_firstHeard rfl rfl rfl rfl rfl (EvD.to (c_firstHeard L b _ m hm0 ((k_w4_lt (by decide)).trans hm) k hk _) (show _ = oF h m k i from o_first_w4 h _ _ _ _ m k _) rfl) ?_
    refine ev_icmp_eq rfl rfl (fun c_49 => ?_) (fun c_49 => ?_)
    · refine ev_aload_n rfl rfl rfl ?_
      refine ev_dup rfl rfl rfl ?_
      refine ev_getI rfl rfl fl_X3_34 rfl rfl rfl ?_
      try simp only [k_w4_r7, k_w4_r8, k_w4_r9, k_w4_r10]
      refine ev_iconst (v := 1) rfl rfl (by decide) ?_
      refine ev_iadd rfl rfl ?_
      refine ev_putI rfl rfl fl_X3_34 rfl rfl rfl rfl rfl ?_
      simp only [k_w4_7, k_w4_8, k_w4_9, k_w4_10]
      refine ev_iinc (y := 1) rfl rfl rfl (by decide) rfl rfl ?_
      dsimp only [List.set]
      refine ev_aload_n rfl rfl rfl ?_
      refine ev_aload_n rfl rfl rfl ?_
      refine ev_getI rfl rfl fl_X3_37 rfl rfl rfl ?_
      try simp only [k_w4_r7, k_w4_r8, k_w4_r9, k_w4_r10]
      refine ev_bipush (v := (-4)) rfl rfl (by decide) ?_
      refine ev_icmp_ne rfl rfl (fun c_77 => ?_) (fun c_77 => ?_)
      · refine ev_aload_n rfl rfl rfl ?_
        refine ev_getI rfl rfl fl_X3_37 rfl rfl rfl ?_
        try simp only [k_w4_r7, k_w4_r8, k_w4_r9, k_w4_r10]
        refine ev_putI rfl rfl fl_X3_37 rfl rfl rfl rfl rfl ?_
        simp only [k_w4_7, k_w4_8, k_w4_9, k_w4_10]
        refine ev_aload_n rfl rfl rfl ?_
        refine ev_iload rfl rfl rfl ?_
        refine ev_putI rfl rfl fl_X3_40 rfl rfl rfl rfl rfl ?_
        simp only [k_w4_7, k_w4_8, k_w4_9, k_w4_10]
        refine ev_aload_n rfl rfl rfl ?_
        refine ev_aload_n rfl rfl rfl ?_
        refine ev_getI rfl rfl fl_X3_43 rfl rfl rfl ?_
        try simp only [k_w4_r7, k_w4_r8, k_w4_r9, k_w4_r10]
        refine ev_iload_n rfl rfl rfl ?_
        refine ev_S2D rfl rfl lk_X3_52 st_J9_max_7cf53 rfl rfl (c_max _ _ _ _) ?_
        refine ev_putI rfl rfl fl_X3_43 rfl rfl rfl rfl rfl ?_
        simp only [k_w4_7, k_w4_8, k_w4_9, k_w4_10]
        refine ev_iinc (y := 1) rfl rfl rfl (by decide) rfl rfl ?_
        dsimp only [List.set]
        refine ev_goto rfl rfl ?_
        have z_ := ih (i + 1) (by omega)
        simp only [w_in4, w_run, w_fst, w_lst, w_lng, if_neg c_32, if_pos c_49, if_neg c_77] at z_
        rw [nI_1 i]
        exact z_
      · refine ev_iload rfl rfl rfl ?_
        refine ev_goto rfl rfl ?_
        refine ev_putI rfl rfl fl_X3_37 rfl rfl rfl rfl rfl ?_
        simp only [k_w4_7, k_w4_8, k_w4_9, k_w4_10]
        refine ev_aload_n rfl rfl rfl ?_
        refine ev_iload rfl rfl rfl ?_
        refine ev_putI rfl rfl fl_X3_40 rfl rfl rfl rfl rfl ?_
        simp only [k_w4_7, k_w4_8, k_w4_9, k_w4_10]
        refine ev_aload_n rfl rfl rfl ?_
        refine ev_aload_n rfl rfl rfl ?_
        refine ev_getI rfl rfl fl_X3_43 rfl rfl rfl ?_
        try simp only [k_w4_r7, k_w4_r8, k_w4_r9, k_w4_r10]
        refine ev_iload_n rfl rfl rfl ?_
        refine ev_S2D rfl rfl lk_X3_52 st_J9_max_7cf53 rfl rfl (c_max _ _ _ _) ?_
        refine ev_putI rfl rfl fl_X3_43 rfl rfl rfl rfl rfl ?_
        simp only [k_w4_7, k_w4_8, k_w4_9, k_w4_10]
        refine ev_iinc (y := 1) rfl rfl rfl (by decide) rfl rfl ?_
        dsimp only [List.set]
        refine ev_goto rfl rfl ?_
        have z_ := ih (i + 1) (by omega)
        simp only [w_in4, w_run, w_fst, w_lst, w_lng, if_neg c_32, if_pos c_49, if_pos c_77] at z_
        rw [nI_1 i]
        exact z_
    · refine ev_iconst (v := 0) rfl rfl (by decide) ?_
      refine ev_istore_n rfl rfl rfl rfl ?_
      dsimp only [List.set]
      refine ev_goto rfl rfl ?_
      refine ev_iinc (y := 1) rfl rfl rfl (by decide) rfl rfl ?_
      dsimp only [List.set]
      refine ev_goto rfl rfl ?_
      have z_ := ih (i + 1) (by omega)
      simp only [w_in4, w_run, w_fst, w_lst, w_lng, if_neg c_32, if_neg c_49] at z_
      rw [nI_1 i]
      exact z_

set_option maxRecDepth 100000 in
set_option maxHeartbeats 4000000 in
theorem c_walk (L : Nat) (b : Bool) (h : Hp) (m : Nat) (hm0 : m ≤ 6) (hm : h 50 5 = nI m) (j k : Nat) (hj : j < 4) (hk : k < 4)  : EvU mi_X3_walk [.ref 50, .int (nI j), .int (nI k)] (G0 L b) h (k_wk h m j k 1000) := by
  refine EvU.of (lo := [some (.ref 50), some (.int (nI j)), some (.int (nI k)), none, none]) pf_X3_walk ok_X3_walk rfl rfl ?_
  refine ev_aload_n rfl rfl rfl ?_
  refine ev_iconst (v := 0) rfl rfl (by decide) ?_
  refine ev_putI rfl rfl fl_X3_34 rfl rfl rfl rfl rfl ?_
  refine ev_aload_n rfl rfl rfl ?_
  refine ev_bipush (v := (-4)) rfl rfl (by decide) ?_
  refine ev_putI rfl rfl fl_X3_37 rfl rfl rfl rfl rfl ?_
  refine ev_aload_n rfl rfl rfl ?_
  refine ev_bipush (v := (-4)) rfl rfl (by decide) ?_
  refine ev_putI rfl rfl fl_X3_40 rfl rfl rfl rfl rfl ?_
  refine ev_aload_n rfl rfl rfl ?_
  refine ev_iconst (v := 0) rfl rfl (by decide) ?_
  refine ev_putI rfl rfl fl_X3_43 rfl rfl rfl rfl rfl ?_
  refine ev_iconst (v := 0) rfl rfl (by decide) ?_
  refine ev_istore_n rfl rfl rfl rfl ?_
  dsimp only [List.set]
  refine ev_iconst (v := 0) rfl rfl (by decide) ?_
  refine ev_istore rfl rfl rfl rfl ?_
  dsimp only [List.set]
  rw [k_w4_of]
  exact l_walk L b h m hm0 hm j k hj hk 1000 rfl 1000 0 (by omega)

def r_step (h : Hp) (m : Nat) (x y q : Int32) : Int32 := if z_has x (h 50 2) = 0 then -1 else if z_has y (h 50 2) = 0 then -1 else if x = y then -1 else if z_wi q 0 3 = 0 then -1 else
  if q = 0 then w_in4 (oF h m x.toNatClampNeg) (oF h m y.toNatClampNeg) 1000 else if q = 1 then w_fst (oF h m x.toNatClampNeg) (oF h m y.toNatClampNeg) 1000 else if q = 2 then w_lst (oF h m x.toNatClampNeg) (oF h m y.toNatClampNeg) 1000 else w_lng (oF h m x.toNatClampNeg) (oF h m y.toNatClampNeg) 1000
def k_step (h : Hp) (m : Nat) (x y q : Int32) : Hp := if z_has x (h 50 2) = 0 then h else if z_has y (h 50 2) = 0 then h else if x = y then h else if z_wi q 0 3 = 0 then h else k_wk h m x.toNatClampNeg y.toNatClampNeg 1000
theorem k_wk_7 (h : Hp) (m j k i : Nat) : k_wk h m j k i 50 7 = w_in4 (oF h m j) (oF h m k) i := rfl
theorem k_wk_8 (h : Hp) (m j k i : Nat) : k_wk h m j k i 50 8 = w_fst (oF h m j) (oF h m k) i := rfl
theorem k_wk_9 (h : Hp) (m j k i : Nat) : k_wk h m j k i 50 9 = w_lst (oF h m j) (oF h m k) i := rfl
theorem k_wk_10 (h : Hp) (m j k i : Nat) : k_wk h m j k i 50 10 = w_lng (oF h m j) (oF h m k) i := rfl

set_option maxRecDepth 100000 in
set_option maxHeartbeats 4000000 in
theorem x_step (L : Nat) (b : Bool) (h : Hp) (mb : Nat) (hb0 : mb ≤ 4) (hb : h 50 2 = nI mb) (m : Nat) (hm0 : m ≤ 6) (hm : h 50 5 = nI m) (x y q : Int32) : EvD mi_X9_step [.ref 1, .int x, .int y, .int q] (G0 L b) h (r_step h m x y q) (k_step h m x y q) := by
  refine EvD.of (lo := [some (.ref 1), some (.int x), some (.int y), some (.int q)]) pf_X9_step ok_X9_step rfl rfl ?_
  refine ev_aload_n rfl rfl rfl ?_
  refine ev_getR rfl rfl fl_X9_64 rfl rfl rfl rfl ?_
  refine ev_iload_n rfl rfl rfl ?_
  refine ev_V1D rfl rfl lk_X9_289 vt_X3_hasBoat rfl rfl rfl rfl rfl (c_X3_hasBoat _ _ _ _) ?_
  refine ev_if_eq rfl rfl (fun c_8 => ?_) (fun c_8 => ?_)
  · refine ev_iconst (v := (-1)) rfl rfl (by decide) ?_
    exact ev_iret rfl rfl rfl (⟨congrArg (fun z => some (Value.int z)) (by simp only [r_step, if_pos c_8]), rfl, by simp only [k_step, if_pos c_8]⟩)
  · refine ev_aload_n rfl rfl rfl ?_
    refine ev_getR rfl rfl fl_X9_64 rfl rfl rfl rfl ?_
    refine ev_iload_n rfl rfl rfl ?_
    refine ev_V1D rfl rfl lk_X9_289 vt_X3_hasBoat rfl rfl rfl rfl rfl (c_X3_hasBoat _ _ _ _) ?_
    refine ev_if_eq rfl rfl (fun c_19 => ?_) (fun c_19 => ?_)
    · refine ev_iconst (v := (-1)) rfl rfl (by decide) ?_
      exact ev_iret rfl rfl rfl (⟨congrArg (fun z => some (Value.int z)) (by simp only [r_step, if_neg c_8, if_pos c_19]), rfl, by simp only [k_step, if_neg c_8, if_pos c_19]⟩)
    · refine ev_iload_n rfl rfl rfl ?_
      refine ev_iload_n rfl rfl rfl ?_
      refine ev_icmp_eq rfl rfl (fun c_24 => ?_) (fun c_24 => ?_)
      · refine ev_iconst (v := (-1)) rfl rfl (by decide) ?_
        exact ev_iret rfl rfl rfl (⟨congrArg (fun z => some (Value.int z)) (by simp only [r_step, if_neg c_8, if_neg c_19, if_pos c_24]), rfl, by simp only [k_step, if_neg c_8, if_neg c_19, if_pos c_24]⟩)
      · refine ev_iload_n rfl rfl rfl ?_
        refine ev_iconst (v := 0) rfl rfl (by decide) ?_
        refine ev_iconst (v := 3) rfl rfl (by decide) ?_
        refine ev_S3D rfl rfl lk_X9_75 st_X9_isWithin rfl rfl (c_isWithin _ _ _ _ _) ?_
        refine ev_if_ne rfl rfl (fun c_33 => ?_) (fun c_33 => ?_)
        · obtain ⟨j, hj, rfl⟩ := z_hask hb hb0 (by decide) c_8
          obtain ⟨k, hk, rfl⟩ := z_hask hb hb0 (by decide) c_19
          have ej := nI_clamp (show j < 2 ^ 31 by omega)
          have ek := nI_clamp (show k < 2 ^ 31 by omega)
          refine ev_aload_n rfl rfl rfl ?_
          refine ev_getR rfl rfl fl_X9_64 rfl rfl rfl rfl ?_
          refine ev_iload_n rfl rfl rfl ?_
          refine ev_iload_n rfl rfl rfl ?_
          refine ev_V2U rfl rfl lk_X9_295 vt_X3_walk rfl rfl rfl rfl rfl (c_walk _ _ _ m hm0 hm j k (by omega) (by omega)) ?_
          refine ev_iload_n rfl rfl rfl ?_
          rcases ev_sw q 0 2 with w_ | ⟨w_, w2_⟩
          · have n0_ : ¬ q = 0 := fun e_ => by rw [e_] at w_; exact absurd w_ (by decide)
            have n1_ : ¬ q = 1 := fun e_ => by rw [e_] at w_; exact absurd w_ (by decide)
            have n2_ : ¬ q = 2 := fun e_ => by rw [e_] at w_; exact absurd w_ (by decide)
            refine ev_tabOut 100 rfl w_ (by decide) ?_
            refine ev_aload_n rfl rfl rfl ?_
            refine ev_getR rfl rfl fl_X9_64 rfl rfl rfl rfl ?_
            refine ev_getI rfl rfl fl_X9_308 rfl rfl rfl ?_
            exact ev_iret rfl rfl rfl (⟨congrArg (fun z => some (Value.int z)) (by simp only [r_step, if_neg c_8, if_neg c_19, if_neg c_24, if_neg c_33, if_neg n0_, if_neg n1_, if_neg n2_, ej, ek]; try rfl), rfl, by simp only [k_step, if_neg c_8, if_neg c_19, if_neg c_24, if_neg c_33, if_neg n0_, if_neg n1_, if_neg n2_, ej, ek]⟩)
          · have w3_ : q = 0 ∨ q = 1 ∨ q = 2 := by simp only [← Int32.toInt_inj]; have e_ := w_; have e2_ := w2_; simp only [Int32.reduceToInt] at *; omega
            rcases w3_ with e_ | e_ | e_
            · refine ev_tabIn 76 rfl (by rw [e_]; decide) (by rw [e_]; decide) (by rw [e_]; rfl) (by decide) ?_
              refine ev_aload_n rfl rfl rfl ?_
              refine ev_getR rfl rfl fl_X9_64 rfl rfl rfl rfl ?_
              refine ev_getI rfl rfl fl_X9_299 rfl rfl rfl ?_
              exact ev_iret rfl rfl rfl (⟨congrArg (fun z => some (Value.int z)) (by simp only [r_step, if_neg c_8, if_neg c_19, if_neg c_24, if_neg c_33, if_pos e_, ej, ek]; try rfl), rfl, by simp only [k_step, if_neg c_8, if_neg c_19, if_neg c_24, if_neg c_33, if_pos e_, ej, ek]⟩)
            · have n0_ : ¬ q = 0 := by rw [e_]; decide
              refine ev_tabIn 84 rfl (by rw [e_]; decide) (by rw [e_]; decide) (by rw [e_]; rfl) (by decide) ?_
              refine ev_aload_n rfl rfl rfl ?_
              refine ev_getR rfl rfl fl_X9_64 rfl rfl rfl rfl ?_
              refine ev_getI rfl rfl fl_X9_302 rfl rfl rfl ?_
              exact ev_iret rfl rfl rfl (⟨congrArg (fun z => some (Value.int z)) (by simp only [r_step, if_neg c_8, if_neg c_19, if_neg c_24, if_neg c_33, if_neg n0_, if_pos e_, ej, ek]; try rfl), rfl, by simp only [k_step, if_neg c_8, if_neg c_19, if_neg c_24, if_neg c_33, if_neg n0_, if_pos e_, ej, ek]⟩)
            · have n0_ : ¬ q = 0 := by rw [e_]; decide
              have n1_ : ¬ q = 1 := by rw [e_]; decide
              refine ev_tabIn 92 rfl (by rw [e_]; decide) (by rw [e_]; decide) (by rw [e_]; rfl) (by decide) ?_
              refine ev_aload_n rfl rfl rfl ?_
              refine ev_getR rfl rfl fl_X9_64 rfl rfl rfl rfl ?_
              refine ev_getI rfl rfl fl_X9_305 rfl rfl rfl ?_
              exact ev_iret rfl rfl rfl (⟨congrArg (fun z => some (Value.int z)) (by simp only [r_step, if_neg c_8, if_neg c_19, if_neg c_24, if_neg c_33, if_neg n0_, if_neg n1_, if_pos e_, ej, ek]; try rfl), rfl, by simp only [k_step, if_neg c_8, if_neg c_19, if_neg c_24, if_neg c_33, if_neg n0_, if_neg n1_, if_pos e_, ej, ek]⟩)
        · refine ev_iconst (v := (-1)) rfl rfl (by decide) ?_
          exact ev_iret rfl rfl rfl (⟨congrArg (fun z => some (Value.int z)) (by simp only [r_step, if_neg c_8, if_neg c_19, if_neg c_24, if_pos c_33]), rfl, by simp only [k_step, if_neg c_8, if_neg c_19, if_neg c_24, if_pos c_33]⟩)

def mF (h : Hp) (m j : Nat) : Nat → Int32 := fun i => o_mh h m j (nI i)
def rmW (h : Hp) (m : Nat) (j k : Nat) (q : Int32) (N : Nat) : Int32 := if q = 0 then v_in4 (mF h m j) (mF h m k) N else if q = 1 then w_fst (mF h m j) (mF h m k) N else if q = 2 then w_lst (mF h m j) (mF h m k) N else v_lng (mF h m j) (mF h m k) N
def rmSt (h : Hp) (m : Nat) (x y q : Int32) : Int32 := if z_has x (h 63 45) = 0 then -1 else if z_has y (h 63 45) = 0 then -1 else if x = y then -1 else if z_wi q 0 3 = 0 then -1 else rmW h m x.toNatClampNeg y.toNatClampNeg q 1000

set_option maxRecDepth 100000 in
set_option maxHeartbeats 4000000 in
theorem l_mstep (L : Nat) (b : Bool) (h : Hp) (hB : Bx h) (m : Nat) (hm0 : m ≤ 6) (hm : h 63 48 = nI m) (j k : Nat) (hj : j < 4) (hk : k < 4) (q : Int32) (N : Nat) (hN : N = 1000)  : ∀ t i : Nat, i + t = N → EvQ mi_X10_step 71 [some (.ref 63), some (.int (nI j)), some (.int (nI k)), some (.int q), some (.int (v_in4 (mF h m j) (mF h m k) i)), some (.int (w_fst (mF h m j) (mF h m k) i)), some (.int (w_lst (mF h m j) (mF h m k) i)), some (.int (w_run (mF h m j) (mF h m k) i)), some (.int (v_lng (mF h m j) (mF h m k) i)), some (.int (nI i)), none] [] (G0 L b) h 0 0 (fun v G' h' => v = some (.int (rmW h m j k q N)) ∧ G' = G0 L b ∧ h' = h) := by
  intro t
  induction t with
  | zero =>
    intro i hi
    have hi2 : i = N := by omega
    subst hi2
    refine ev_iload rfl rfl rfl ?_
    refine ev_sipush (v := 1000) rfl rfl (by decide) ?_
    refine ev_icmp_ge rfl rfl (fun c_76 => ?_) (fun z_ => absurd (by rw [hN]; decide) z_)
    refine ev_iload_n rfl rfl rfl ?_
    refine ev_if_ne rfl rfl (fun c_191 => ?_) (fun c_191 => ?_)
    · refine ev_iload_n rfl rfl rfl ?_
      refine ev_iconst (v := 1) rfl rfl (by decide) ?_
      refine ev_icmp_ne rfl rfl (fun c_201 => ?_) (fun c_201 => ?_)
      · refine ev_iload_n rfl rfl rfl ?_
        refine ev_iconst (v := 2) rfl rfl (by decide) ?_
        refine ev_icmp_ne rfl rfl (fun c_211 => ?_) (fun c_211 => ?_)
        · refine ev_iload rfl rfl rfl ?_
          exact ev_iret rfl rfl rfl (⟨congrArg (fun z => some (Value.int z)) (by simp only [rmW, if_pos c_76, if_neg c_191, if_neg c_201, if_neg c_211]), rfl, rfl⟩)
        · refine ev_iload rfl rfl rfl ?_
          refine ev_goto rfl rfl ?_
          exact ev_iret rfl rfl rfl (⟨congrArg (fun z => some (Value.int z)) (by simp only [rmW, if_pos c_76, if_neg c_191, if_neg c_201, if_pos c_211]), rfl, rfl⟩)
      · refine ev_iload rfl rfl rfl ?_
        refine ev_goto rfl rfl ?_
        exact ev_iret rfl rfl rfl (⟨congrArg (fun z => some (Value.int z)) (by simp only [rmW, if_pos c_76, if_neg c_191, if_pos c_201]), rfl, rfl⟩)
    · refine ev_iload rfl rfl rfl ?_
      refine ev_goto rfl rfl ?_
      exact ev_iret rfl rfl rfl (⟨congrArg (fun z => some (Value.int z)) (by simp only [rmW, if_pos c_76, if_pos c_191]), rfl, rfl⟩)
  | succ t ih =>
    intro i hi
    refine ev_iload rfl rfl rfl ?_
    refine ev_sipush (v := 1000) rfl rfl (by decide) ?_
    refine ev_icmp_ge rfl rfl (fun z_ => absurd z_ (show ¬ nI 1000 ≤ nI i from nI_ge (by omega) (by omega))) (fun c_76 => ?_)
    refine ev_aload_n rfl rfl rfl ?_
    refine ev_iload_n rfl rfl rfl ?_
    refine ev_iload rfl rfl rfl ?_
    refine ev_V2D rfl rfl lk_X10_355 vt_X10_heardAt rfl rfl rfl rfl rfl (EvD.to (c_mheardAt L b _ hB m hm0 hm j hj _) (show _ = mF h m j i from rfl) rfl) ?_
    refine ev_aload_n rfl rfl rfl ?_
    refine ev_iload_n rfl rfl rfl ?_
    refine ev_iload rfl rfl rfl ?_
    refine ev_V2D rfl rfl lk_X10_355 vt_X10_heardAt rfl rfl rfl rfl rfl (EvD.to (c_mheardAt L b _ hB m hm0 hm k hk _) (show _ = mF h m k i from rfl) rfl) ?_
    refine ev_icmp_ne rfl rfl (fun c_93 => ?_) (fun c_93 => ?_)
    · refine ev_iconst (v := 0) rfl rfl (by decide) ?_
      refine ev_istore rfl rfl rfl rfl ?_
      dsimp only [List.set]
      refine ev_iload rfl rfl rfl ?_
      refine ev_if_eq rfl rfl (fun c_105 => ?_) (fun z_ => absurd (by decide) z_)
      refine ev_iconst (v := 0) rfl rfl (by decide) ?_
      refine ev_istore rfl rfl rfl rfl ?_
      dsimp only [List.set]
      refine ev_iload rfl rfl rfl ?_
      refine ev_iload rfl rfl rfl ?_
      refine ev_icmp_le rfl rfl (fun c_122 => ?_) (fun c_122 => ?_)
      · refine ev_iload rfl rfl rfl ?_
        refine ev_istore rfl rfl rfl rfl ?_
        dsimp only [List.set]
        refine ev_iload rfl rfl rfl ?_
        refine ev_iload rfl rfl rfl ?_
        refine ev_if_eq rfl rfl (fun c_138 => ?_) (fun z_ => absurd (by decide) z_)
        refine ev_iconst (v := 0) rfl rfl (by decide) ?_
        refine ev_iadd rfl rfl ?_
        refine ev_istore rfl rfl rfl rfl ?_
        dsimp only [List.set]
        refine ev_iload rfl rfl rfl ?_
        refine ev_if_eq rfl rfl (fun c_151 => ?_) (fun z_ => absurd (by decide) z_)
        refine ev_iload rfl rfl rfl ?_
        refine ev_istore rfl rfl rfl rfl ?_
        dsimp only [List.set]
        refine ev_iload rfl rfl rfl ?_
        refine ev_if_eq rfl rfl (fun c_172 => ?_) (fun z_ => absurd (by decide) z_)
        refine ev_iload rfl rfl rfl ?_
        refine ev_istore rfl rfl rfl rfl ?_
        dsimp only [List.set]
        refine ev_iinc (y := 1) rfl rfl rfl (by decide) rfl rfl ?_
        dsimp only [List.set]
        refine ev_goto rfl rfl ?_
        have z_ := ih (i + 1) (by omega)
        simp only [v_in4, w_run, w_fst, w_lst, v_lng, if_neg c_76, if_neg c_93, if_pos c_105, if_pos c_122, if_pos c_138, if_pos c_151, if_pos c_172] at z_
        rw [nI_1 i]
        exact EvQ.drop 10 z_
      · refine ev_iload rfl rfl rfl ?_
        refine ev_goto rfl rfl ?_
        refine ev_istore rfl rfl rfl rfl ?_
        dsimp only [List.set]
        refine ev_iload rfl rfl rfl ?_
        refine ev_iload rfl rfl rfl ?_
        refine ev_if_eq rfl rfl (fun c_138 => ?_) (fun z_ => absurd (by decide) z_)
        refine ev_iconst (v := 0) rfl rfl (by decide) ?_
        refine ev_iadd rfl rfl ?_
        refine ev_istore rfl rfl rfl rfl ?_
        dsimp only [List.set]
        refine ev_iload rfl rfl rfl ?_
        refine ev_if_eq rfl rfl (fun c_151 => ?_) (fun z_ => absurd (by decide) z_)
        refine ev_iload rfl rfl rfl ?_
        refine ev_istore rfl rfl rfl rfl ?_
        dsimp only [List.set]
        refine ev_iload rfl rfl rfl ?_
        refine ev_if_eq rfl rfl (fun c_172 => ?_) (fun z_ => absurd (by decide) z_)
        refine ev_iload rfl rfl rfl ?_
        refine ev_istore rfl rfl rfl rfl ?_
        dsimp only [List.set]
        refine ev_iinc (y := 1) rfl rfl rfl (by decide) rfl rfl ?_
        dsimp only [List.set]
        refine ev_goto rfl rfl ?_
        have z_ := ih (i + 1) (by omega)
        simp only [v_in4, w_run, w_fst, w_lst, v_lng, if_neg c_76, if_neg c_93, if_pos c_105, if_neg c_122, if_pos c_138, if_pos c_151, if_pos c_172] at z_
        rw [nI_1 i]
        exact EvQ.drop 10 z_
    · refine ev_iconst (v := 1) rfl rfl (by decide) ?_
      refine ev_goto rfl rfl ?_
      refine ev_istore rfl rfl rfl rfl ?_
      dsimp only [List.set]
      refine ev_iload rfl rfl rfl ?_
      refine ev_if_eq rfl rfl (fun z_ => absurd z_ (by decide)) (fun c_105 => ?_)
      refine ev_iload rfl rfl rfl ?_
      refine ev_iconst (v := 1) rfl rfl (by decide) ?_
      refine ev_iadd rfl rfl ?_
      refine ev_goto rfl rfl ?_
      refine ev_istore rfl rfl rfl rfl ?_
      dsimp only [List.set]
      refine ev_iload rfl rfl rfl ?_
      refine ev_iload rfl rfl rfl ?_
      refine ev_icmp_le rfl rfl (fun c_122 => ?_) (fun c_122 => ?_)
      · refine ev_iload rfl rfl rfl ?_
        refine ev_istore rfl rfl rfl rfl ?_
        dsimp only [List.set]
        refine ev_iload rfl rfl rfl ?_
        refine ev_iload rfl rfl rfl ?_
        refine ev_if_eq rfl rfl (fun z_ => absurd z_ (by decide)) (fun c_138 => ?_)
        refine ev_iconst (v := 1) rfl rfl (by decide) ?_
        refine ev_goto rfl rfl ?_
        refine ev_iadd rfl rfl ?_
        refine ev_istore rfl rfl rfl rfl ?_
        dsimp only [List.set]
        refine ev_iload rfl rfl rfl ?_
        refine ev_if_eq rfl rfl (fun z_ => absurd z_ (by decide)) (fun c_151 => ?_)
        refine ev_iload rfl rfl rfl ?_
        refine ev_bipush (v := (-4)) rfl rfl (by decide) ?_
        refine ev_icmp_ne rfl rfl (fun c_158 => ?_) (fun c_158 => ?_)
        · refine ev_iload rfl rfl rfl ?_
          refine ev_istore rfl rfl rfl rfl ?_
          dsimp only [List.set]
          refine ev_iload rfl rfl rfl ?_
          refine ev_if_eq rfl rfl (fun z_ => absurd z_ (by decide)) (fun c_172 => ?_)
          refine ev_iload rfl rfl rfl ?_
          refine ev_goto rfl rfl ?_
          refine ev_istore rfl rfl rfl rfl ?_
          dsimp only [List.set]
          refine ev_iinc (y := 1) rfl rfl rfl (by decide) rfl rfl ?_
          dsimp only [List.set]
          refine ev_goto rfl rfl ?_
          have z_ := ih (i + 1) (by omega)
          simp only [v_in4, w_run, w_fst, w_lst, v_lng, if_neg c_76, if_pos c_93, if_neg c_105, if_pos c_122, if_neg c_138, if_neg c_151, if_neg c_158, if_neg c_172] at z_
          rw [nI_1 i]
          exact EvQ.drop 10 z_
        · refine ev_iload rfl rfl rfl ?_
          refine ev_goto rfl rfl ?_
          refine ev_istore rfl rfl rfl rfl ?_
          dsimp only [List.set]
          refine ev_iload rfl rfl rfl ?_
          refine ev_if_eq rfl rfl (fun z_ => absurd z_ (by decide)) (fun c_172 => ?_)
          refine ev_iload rfl rfl rfl ?_
          refine ev_goto rfl rfl ?_
          refine ev_istore rfl rfl rfl rfl ?_
          dsimp only [List.set]
          refine ev_iinc (y := 1) rfl rfl rfl (by decide) rfl rfl ?_
          dsimp only [List.set]
          refine ev_goto rfl rfl ?_
          have z_ := ih (i + 1) (by omega)
          simp only [v_in4, w_run, w_fst, w_lst, v_lng, if_neg c_76, if_pos c_93, if_neg c_105, if_pos c_122, if_neg c_138, if_neg c_151, if_pos c_158, if_neg c_172] at z_
          rw [nI_1 i]
          exact EvQ.drop 10 z_
      · refine ev_iload rfl rfl rfl ?_
        refine ev_goto rfl rfl ?_
        refine ev_istore rfl rfl rfl rfl ?_
        dsimp only [List.set]
        refine ev_iload rfl rfl rfl ?_
        refine ev_iload rfl rfl rfl ?_
        refine ev_if_eq rfl rfl (fun z_ => absurd z_ (by decide)) (fun c_138 => ?_)
        refine ev_iconst (v := 1) rfl rfl (by decide) ?_
        refine ev_goto rfl rfl ?_
        refine ev_iadd rfl rfl ?_
        refine ev_istore rfl rfl rfl rfl ?_
        dsimp only [List.set]
        refine ev_iload rfl rfl rfl ?_
        refine ev_if_eq rfl rfl (fun z_ => absurd z_ (by decide)) (fun c_151 => ?_)
        refine ev_iload rfl rfl rfl ?_
        refine ev_bipush (v := (-4)) rfl rfl (by decide) ?_
        refine ev_icmp_ne rfl rfl (fun c_158 => ?_) (fun c_158 => ?_)
        · refine ev_iload rfl rfl rfl ?_
          refine ev_istore rfl rfl rfl rfl ?_
          dsimp only [List.set]
          refine ev_iload rfl rfl rfl ?_
          refine ev_if_eq rfl rfl (fun z_ => absurd z_ (by decide)) (fun c_172 => ?_)
          refine ev_iload rfl rfl rfl ?_
          refine ev_goto rfl rfl ?_
          refine ev_istore rfl rfl rfl rfl ?_
          dsimp only [List.set]
          refine ev_iinc (y := 1) rfl rfl rfl (by decide) rfl rfl ?_
          dsimp only [List.set]
          refine ev_goto rfl rfl ?_
          have z_ := ih (i + 1) (by omega)
          simp only [v_in4, w_run, w_fst, w_lst, v_lng, if_neg c_76, if_pos c_93, if_neg c_105, if_neg c_122, if_neg c_138, if_neg c_151, if_neg c_158, if_neg c_172] at z_
          rw [nI_1 i]
          exact EvQ.drop 10 z_
        · refine ev_iload rfl rfl rfl ?_
          refine ev_goto rfl rfl ?_
          refine ev_istore rfl rfl rfl rfl ?_
          dsimp only [List.set]
          refine ev_iload rfl rfl rfl ?_
          refine ev_if_eq rfl rfl (fun z_ => absurd z_ (by decide)) (fun c_172 => ?_)
          refine ev_iload rfl rfl rfl ?_
          refine ev_goto rfl rfl ?_
          refine ev_istore rfl rfl rfl rfl ?_
          dsimp only [List.set]
          refine ev_iinc (y := 1) rfl rfl rfl (by decide) rfl rfl ?_
          dsimp only [List.set]
          refine ev_goto rfl rfl ?_
          have z_ := ih (i + 1) (by omega)
          simp only [v_in4, w_run, w_fst, w_lst, v_lng, if_neg c_76, if_pos c_93, if_neg c_105, if_neg c_122, if_neg c_138, if_neg c_151, if_pos c_158, if_neg c_172] at z_
          rw [nI_1 i]
          exact EvQ.drop 10 z_

set_option maxRecDepth 100000 in
set_option maxHeartbeats 4000000 in
theorem c_mstep (L : Nat) (b : Bool) (h : Hp) (hB : Bx h) (m : Nat) (hm0 : m ≤ 6) (hm : h 63 48 = nI m) (mb : Nat) (hb0 : mb ≤ 4) (hb : h 63 45 = nI mb) (x y q : Int32) : EvD mi_X10_step [.ref 63, .int x, .int y, .int q] (G0 L b) h (rmSt h m x y q) (h) := by
  refine EvD.of (lo := [some (.ref 63), some (.int x), some (.int y), some (.int q), none, none, none, none, none, none, none]) pf_X10_step ok_X10_step rfl rfl ?_
  refine ev_iload_n rfl rfl rfl ?_
  refine ev_i2l rfl rfl ?_
  refine ev_lconst (v := 0) rfl rfl rfl ?_
  refine ev_aload_n rfl rfl rfl ?_
  refine ev_getI rfl rfl fl_X10_346 rfl rfl rfl ?_
  refine ev_iconst (v := 1) rfl rfl (by decide) ?_
  refine ev_isub rfl rfl ?_
  refine ev_i2l rfl rfl ?_
  refine ev_S3D rfl rfl lk_X10_124 st_X10_in rfl rfl (c_inw _ _ _ (0) (h 63 45 - 1) (by decide) rfl) ?_
  rw [z_wi_has ((hB 63 45 : B (h 63 45) 0 4).mono (by decide) (by decide))]
  refine ev_if_eq rfl rfl (fun c_13 => ?_) (fun c_13 => ?_)
  · refine ev_iconst (v := (-1)) rfl rfl (by decide) ?_
    exact ev_iret rfl rfl rfl (⟨congrArg (fun z => some (Value.int z)) (by simp only [rmSt, if_pos c_13]), rfl, rfl⟩)
  · refine ev_iload_n rfl rfl rfl ?_
    refine ev_i2l rfl rfl ?_
    refine ev_lconst (v := 0) rfl rfl rfl ?_
    refine ev_aload_n rfl rfl rfl ?_
    refine ev_getI rfl rfl fl_X10_346 rfl rfl rfl ?_
    refine ev_iconst (v := 1) rfl rfl (by decide) ?_
    refine ev_isub rfl rfl ?_
    refine ev_i2l rfl rfl ?_
    refine ev_S3D rfl rfl lk_X10_124 st_X10_in rfl rfl (c_inw _ _ _ (0) (h 63 45 - 1) (by decide) rfl) ?_
    rw [z_wi_has ((hB 63 45 : B (h 63 45) 0 4).mono (by decide) (by decide))]
    refine ev_if_eq rfl rfl (fun c_29 => ?_) (fun c_29 => ?_)
    · refine ev_iconst (v := (-1)) rfl rfl (by decide) ?_
      exact ev_iret rfl rfl rfl (⟨congrArg (fun z => some (Value.int z)) (by simp only [rmSt, if_neg c_13, if_pos c_29]), rfl, rfl⟩)
    · refine ev_iload_n rfl rfl rfl ?_
      refine ev_iload_n rfl rfl rfl ?_
      refine ev_icmp_eq rfl rfl (fun c_34 => ?_) (fun c_34 => ?_)
      · refine ev_iconst (v := (-1)) rfl rfl (by decide) ?_
        exact ev_iret rfl rfl rfl (⟨congrArg (fun z => some (Value.int z)) (by simp only [rmSt, if_neg c_13, if_neg c_29, if_pos c_34]), rfl, rfl⟩)
      · refine ev_iload_n rfl rfl rfl ?_
        refine ev_i2l rfl rfl ?_
        refine ev_lconst (v := 0) rfl rfl rfl ?_
        refine ev_ldc2 rfl rfl kc_X10_269 ?_
        refine ev_S3D rfl rfl lk_X10_124 st_X10_in rfl rfl (c_inw _ _ _ (0) (3) (by decide) (by decide)) ?_
        refine ev_if_ne rfl rfl (fun c_46 => ?_) (fun c_46 => ?_)
        · obtain ⟨j, hj, rfl⟩ := z_hask hb hb0 (by decide) c_13
          obtain ⟨k, hk, rfl⟩ := z_hask hb hb0 (by decide) c_29
          have ej := nI_clamp (show j < 2 ^ 31 by omega)
          have ek := nI_clamp (show k < 2 ^ 31 by omega)
          refine ev_iconst (v := 0) rfl rfl (by decide) ?_
          refine ev_istore rfl rfl rfl rfl ?_
          dsimp only [List.set]
          refine ev_bipush (v := (-4)) rfl rfl (by decide) ?_
          refine ev_istore rfl rfl rfl rfl ?_
          dsimp only [List.set]
          refine ev_bipush (v := (-4)) rfl rfl (by decide) ?_
          refine ev_istore rfl rfl rfl rfl ?_
          dsimp only [List.set]
          refine ev_iconst (v := 0) rfl rfl (by decide) ?_
          refine ev_istore rfl rfl rfl rfl ?_
          dsimp only [List.set]
          refine ev_iconst (v := 0) rfl rfl (by decide) ?_
          refine ev_istore rfl rfl rfl rfl ?_
          dsimp only [List.set]
          refine ev_iconst (v := 0) rfl rfl (by decide) ?_
          refine ev_istore rfl rfl rfl rfl ?_
          dsimp only [List.set]
          simp only [rmSt, if_neg c_13, if_neg c_29, if_neg c_34, if_neg c_46, ej, ek]
          exact l_mstep L b h hB m hm0 hm j k (by omega) (by omega) q 1000 rfl 1000 0 (by omega)
        · refine ev_iconst (v := (-1)) rfl rfl (by decide) ?_
          exact ev_iret rfl rfl rfl (⟨congrArg (fun z => some (Value.int z)) (by simp only [rmSt, if_neg c_13, if_neg c_29, if_neg c_34, if_pos c_46]), rfl, rfl⟩)

theorem jw_step {h : Hp} (hB : Bx h) (m : Nat) (x y q : Int32) : JW [(50, 7), (50, 8), (50, 9), (50, 10)] h (k_step h m x y q) := by
  unfold k_step
  split
  · exact JW.refl hB
  · split
    · exact JW.refl hB
    · split
      · exact JW.refl hB
      · split
        · exact JW.refl hB
        · unfold k_wk
          rw [← k_w4_of]
          exact ((((JW.refl hB).set rfl (B.any _)).set rfl (B.any _)).set rfl (B.any _)).set rfl (B.any _)
theorem w_stepZ (L : Nat) (b : Bool) (h : Hp) (hB : Bx h) (x y q : Int32) : EvI mi_X9_step [.ref 1, .int x, .int y, .int q] (G0 L b) h (fun r z => r = r_step h (h 50 5).toNatClampNeg x y q ∧ z = k_step h (h 50 5).toNatClampNeg x y q) [(50, 7), (50, 8), (50, 9), (50, 10)] :=
  (x_step L b h _ (B.nI (u := 4) (hB 50 2)).2 (B.nI (u := 4) (hB 50 2)).1 _ (B.nI (u := 6) (hB 50 5)).2 (B.nI (u := 6) (hB 50 5)).1 x y q).ix (jw_step hB _ x y q)
theorem wm50 {a j : Nat} (ha : a ≠ 50) : wm [(50, 7), (50, 8), (50, 9), (50, 10)] a j = false := by
  have e : Nat.beq 50 a = false := by
    cases q : Nat.beq 50 a with
    | false => rfl
    | true => exact absurd (Nat.eq_of_beq_eq_true q).symm ha
  simp only [wm, List.any_cons, List.any_nil, e, Bool.false_and, Bool.or_false]
theorem s_mw_cg {h h1 : Hp} (e : ∀ a j, a ≠ 50 → h1 a j = h a j) (lo hi : Int32) : ∀ k, s_mw h1 lo hi k = s_mw h lo hi k
  | 0 => rfl
  | k + 1 => by
    unfold s_mw
    rw [e 90 k (by decide), e 91 k (by decide), s_mw_cg e lo hi k]
theorem o_mh_cg {h h1 : Hp} (e : ∀ a j, a ≠ 50 → h1 a j = h a j) (m n : Nat) (p : Int32) : o_mh h1 m n p = o_mh h m n p := by
  unfold o_mh o_mw
  rw [e 89 n (by decide), e 88 n (by decide), e 63 51 (by decide), s_mw_cg e]
theorem rel_step {h h1 : Hp} (hB : Bx h) (hR : RV h) (hJ : JW [(50, 7), (50, 8), (50, 9), (50, 10)] h h1) (x y q : Int32) : r_step h (h 50 5).toNatClampNeg x y q = rmSt h1 (h1 63 48).toNatClampNeg x y q := by
  have e : ∀ a j, a ≠ 50 → h1 a j = h a j := fun a j ha => hJ.2 a j (wm50 ha)
  have f : ∀ m n, mF h1 m n = oF h m n := fun m n => funext (fun i => (o_mh_cg e m n _).trans (o_first_eq hB hR m n _).symm)
  unfold r_step rmSt rmW
  rw [f, f, e 63 48 (by decide), e 63 45 (by decide), ← hR.1, ← hR.2.1, v_in4_eq, v_lng_eq]
