/-- boats, bends, speed: the same on both sides -/
def RV (h : Hp) : Prop := h 50 2 = h 63 45 ∧ h 50 5 = h 63 48 ∧ h 50 6 = h 63 51 ∧ (∀ j, h 51 j = h 88 j) ∧ (∀ j, h 52 j = h 89 j) ∧ (∀ j, h 53 j = h 90 j) ∧ (∀ j, h 54 j = h 91 j)

def rmB (n p l : Int32) : Int32 := if z_wi p 0 999 = 0 then -1 else if z_wi l 0 99 = 0 then -1 else if n = 4 then -3 else n + 1 - 1
def kmB (h : Hp) (p l : Int32) : Hp := if z_wi p 0 999 = 0 then h else if z_wi l 0 99 = 0 then h else if h 63 45 = 4 then h else ev_set (ev_set (ev_set h 88 (h 63 45).toNatClampNeg p) 89 (h 63 45).toNatClampNeg l) 63 45 (h 63 45 + 1)
theorem z_bb4 {h : Hp} (hB : Bx h) (c : ¬ h 63 45 = 4) : vp_in (h 63 45) 4 := by
  have p5 : B (h 63 45) 0 4 := hB 63 45
  exact (R_neU p5 (by decide : B 4 4 4) c (by decide) : B (h 63 45) 0 3).vp (by decide) (by decide)
theorem z_bb6 {h : Hp} (hB : Bx h) (c : ¬ h 63 48 = 6) : vp_in (h 63 48) 6 := by
  have p5 : B (h 63 48) 0 6 := hB 63 48
  exact (R_neU p5 (by decide : B 6 6 6) c (by decide) : B (h 63 48) 0 5).vp (by decide) (by decide)

set_option maxRecDepth 100000 in
set_option maxHeartbeats 4000000 in
theorem c_mboatE (L : Nat) (b : Bool) (h : Hp) (hB : Bx h) (p l : Int32) : EvD mi_X10_boat [.ref 63, .int p, .int l] (G0 L b) h (rmB (h 63 45) p l) (kmB h p l) := by
  refine EvD.of (lo := [some (.ref 63), some (.int p), some (.int l)]) pf_X10_boat ok_X10_boat rfl rfl ?_
  refine ev_iload_n rfl rfl rfl ?_
  refine ev_i2l rfl rfl ?_
  refine ev_lconst (v := 0) rfl rfl rfl ?_
  refine ev_ldc2 rfl rfl kc_X10_342 ?_
  refine ev_S3D rfl rfl lk_X10_124 st_X10_in rfl rfl (c_inw _ _ _ (0) (999) (by decide) (by decide)) ?_
  refine ev_if_eq rfl rfl (fun c_9 => ?_) (fun c_9 => ?_)
  · refine ev_iconst (v := (-1)) rfl rfl (by decide) ?_
    exact ev_iret rfl rfl rfl (⟨congrArg (fun z => some (Value.int z)) (by simp only [rmB, if_pos c_9]), rfl, by simp only [kmB, if_pos c_9]⟩)
  · refine ev_iload_n rfl rfl rfl ?_
    refine ev_i2l rfl rfl ?_
    refine ev_lconst (v := 0) rfl rfl rfl ?_
    refine ev_ldc2 rfl rfl kc_X10_344 ?_
    refine ev_S3D rfl rfl lk_X10_124 st_X10_in rfl rfl (c_inw _ _ _ (0) (99) (by decide) (by decide)) ?_
    refine ev_if_ne rfl rfl (fun c_21 => ?_) (fun c_21 => ?_)
    · refine ev_aload_n rfl rfl rfl ?_
      refine ev_getI rfl rfl fl_X10_346 rfl rfl rfl ?_
      try simp only [ev_rd1, ev_rd2 (by decide : (63 : Nat) ≠ 88), ev_rd2 (by decide : (63 : Nat) ≠ 89)]
      refine ev_iconst (v := 4) rfl rfl (by decide) ?_
      refine ev_icmp_ne rfl rfl (fun c_31 => ?_) (fun c_31 => ?_)
      · refine ev_aload_n rfl rfl rfl ?_
        refine ev_getR rfl rfl fl_X10_97 rfl rfl rfl rfl ?_
        refine ev_aload_n rfl rfl rfl ?_
        refine ev_getI rfl rfl fl_X10_346 rfl rfl rfl ?_
        try simp only [ev_rd1, ev_rd2 (by decide : (63 : Nat) ≠ 88), ev_rd2 (by decide : (63 : Nat) ≠ 89)]
        refine ev_iload_n rfl rfl rfl ?_
        refine ev_iast rfl rfl rfl rfl (z_bb4 hB c_31) rfl ?_
        refine ev_aload_n rfl rfl rfl ?_
        refine ev_getR rfl rfl fl_X10_100 rfl rfl rfl rfl ?_
        refine ev_aload_n rfl rfl rfl ?_
        refine ev_getI rfl rfl fl_X10_346 rfl rfl rfl ?_
        try simp only [ev_rd1, ev_rd2 (by decide : (63 : Nat) ≠ 88), ev_rd2 (by decide : (63 : Nat) ≠ 89)]
        refine ev_iload_n rfl rfl rfl ?_
        refine ev_iast rfl rfl rfl rfl (z_bb4 hB c_31) rfl ?_
        refine ev_aload_n rfl rfl rfl ?_
        refine ev_dup rfl rfl rfl ?_
        refine ev_getI rfl rfl fl_X10_346 rfl rfl rfl ?_
        try simp only [ev_rd1, ev_rd2 (by decide : (63 : Nat) ≠ 88), ev_rd2 (by decide : (63 : Nat) ≠ 89)]
        refine ev_iconst (v := 1) rfl rfl (by decide) ?_
        refine ev_iadd rfl rfl ?_
        refine ev_putI rfl rfl fl_X10_346 rfl rfl rfl rfl rfl ?_
        refine ev_aload_n rfl rfl rfl ?_
        refine ev_getI rfl rfl fl_X10_346 rfl rfl rfl ?_
        try simp only [ev_rd1, ev_rd2 (by decide : (63 : Nat) ≠ 88), ev_rd2 (by decide : (63 : Nat) ≠ 89)]
        refine ev_iconst (v := 1) rfl rfl (by decide) ?_
        refine ev_isub rfl rfl ?_
        exact ev_iret rfl rfl rfl (⟨congrArg (fun z => some (Value.int z)) (by simp only [rmB, if_neg c_9, if_neg c_21, if_neg c_31]), rfl, by simp only [kmB, if_neg c_9, if_neg c_21, if_neg c_31]⟩)
      · refine ev_bipush (v := (-3)) rfl rfl (by decide) ?_
        exact ev_iret rfl rfl rfl (⟨congrArg (fun z => some (Value.int z)) (by simp only [rmB, if_neg c_9, if_neg c_21, if_pos c_31]), rfl, by simp only [kmB, if_neg c_9, if_neg c_21, if_pos c_31]⟩)
    · refine ev_iconst (v := (-1)) rfl rfl (by decide) ?_
      exact ev_iret rfl rfl rfl (⟨congrArg (fun z => some (Value.int z)) (by simp only [rmB, if_neg c_9, if_pos c_21]), rfl, by simp only [kmB, if_neg c_9, if_pos c_21]⟩)

def s_mb (h : Hp) (p g : Int32) : Nat → Int32
  | 0 => g
  | k + 1 => if s_mb h p g k = 0 then 0 else if h 90 k = p then 0 else 1
def z_g (p l : Int32) : Int32 := if z_wi p 0 999 = 0 then 0 else if z_wi l 1 99 = 0 then 0 else 1
def rmN (h : Hp) (m : Nat) (p g : Int32) : Int32 := if s_mb h p g m = 0 then -1 else if h 63 48 = 6 then -3 else h 63 48 + 1
def kmN (h : Hp) (m : Nat) (p l g : Int32) : Hp := if s_mb h p g m = 0 then h else if h 63 48 = 6 then h else ev_set (ev_set (ev_set h 90 (h 63 48).toNatClampNeg p) 91 (h 63 48).toNatClampNeg l) 63 48 (h 63 48 + 1)

set_option maxRecDepth 100000 in
set_option maxHeartbeats 4000000 in
theorem l_mbend (L : Nat) (b : Bool) (h : Hp) (hB : Bx h) (m : Nat) (hm0 : m ≤ 6) (hm : h 63 48 = nI m) (p l g : Int32) : ∀ t i : Nat, i + t = m → EvQ mi_X10_bend 33 [some (.ref 63), some (.int p), some (.int l), some (.int (s_mb h p g i)), some (.int (nI i))] [] (G0 L b) h 0 0 (fun v G' h' => v = some (.int (rmN h m p g)) ∧ G' = G0 L b ∧ h' = kmN h m p l g) := by
  intro t
  induction t with
  | zero =>
    intro i hi
    have hi2 : i = m := by omega
    subst hi2
    refine ev_iload rfl rfl rfl ?_
    refine ev_aload_n rfl rfl rfl ?_
    refine ev_getI rfl rfl fl_X10_349 rfl rfl rfl ?_
    refine ev_icmp_ge rfl rfl (fun c_39 => ?_) (fun z_ => absurd (by rw [hm]; exact Int32.le_refl _) z_)
    refine ev_iload_n rfl rfl rfl ?_
    refine ev_if_ne rfl rfl (fun c_70 => ?_) (fun c_70 => ?_)
    · refine ev_aload_n rfl rfl rfl ?_
      refine ev_getI rfl rfl fl_X10_349 rfl rfl rfl ?_
      refine ev_bipush (v := 6) rfl rfl (by decide) ?_
      refine ev_icmp_ne rfl rfl (fun c_81 => ?_) (fun c_81 => ?_)
      · refine ev_aload_n rfl rfl rfl ?_
        refine ev_getR rfl rfl fl_X10_103 rfl rfl rfl rfl ?_
        refine ev_aload_n rfl rfl rfl ?_
        refine ev_getI rfl rfl fl_X10_349 rfl rfl rfl ?_
        refine ev_iload_n rfl rfl rfl ?_
        refine ev_iast rfl rfl rfl rfl (z_bb6 hB c_81) rfl ?_
        refine ev_aload_n rfl rfl rfl ?_
        refine ev_getR rfl rfl fl_X10_106 rfl rfl rfl rfl ?_
        refine ev_aload_n rfl rfl rfl ?_
        refine ev_getI rfl rfl fl_X10_349 rfl rfl rfl ?_
        try simp only [ev_rd1, ev_rd2 (by decide : (63 : Nat) ≠ 90), ev_rd2 (by decide : (63 : Nat) ≠ 91)]
        refine ev_iload_n rfl rfl rfl ?_
        refine ev_iast rfl rfl rfl rfl (z_bb6 hB c_81) rfl ?_
        refine ev_aload_n rfl rfl rfl ?_
        refine ev_dup rfl rfl rfl ?_
        refine ev_getI rfl rfl fl_X10_349 rfl rfl rfl ?_
        try simp only [ev_rd1, ev_rd2 (by decide : (63 : Nat) ≠ 90), ev_rd2 (by decide : (63 : Nat) ≠ 91)]
        refine ev_iconst (v := 1) rfl rfl (by decide) ?_
        refine ev_iadd rfl rfl ?_
        refine ev_putI rfl rfl fl_X10_349 rfl rfl rfl rfl rfl ?_
        refine ev_aload_n rfl rfl rfl ?_
        refine ev_getI rfl rfl fl_X10_349 rfl rfl rfl ?_
        try simp only [ev_rd1, ev_rd2 (by decide : (63 : Nat) ≠ 90), ev_rd2 (by decide : (63 : Nat) ≠ 91)]
        exact ev_iret rfl rfl rfl (⟨congrArg (fun z => some (Value.int z)) (by simp only [rmN, if_pos c_39, if_neg c_70, if_neg c_81]), rfl, by simp only [kmN, if_pos c_39, if_neg c_70, if_neg c_81]⟩)
      · refine ev_bipush (v := (-3)) rfl rfl (by decide) ?_
        exact ev_iret rfl rfl rfl (⟨congrArg (fun z => some (Value.int z)) (by simp only [rmN, if_pos c_39, if_neg c_70, if_pos c_81]), rfl, by simp only [kmN, if_pos c_39, if_neg c_70, if_pos c_81]⟩)
    · refine ev_iconst (v := (-1)) rfl rfl (by decide) ?_
      exact ev_iret rfl rfl rfl (⟨congrArg (fun z => some (Value.int z)) (by simp only [rmN, if_pos c_39, if_pos c_70]), rfl, by simp only [kmN, if_pos c_39, if_pos c_70]⟩)
  | succ t ih =>
    intro i hi
    refine ev_iload rfl rfl rfl ?_
    refine ev_aload_n rfl rfl rfl ?_
    refine ev_getI rfl rfl fl_X10_349 rfl rfl rfl ?_
    refine ev_icmp_ge rfl rfl (fun z_ => absurd z_ (by rw [hm]; exact nI_ge (by omega) (by omega))) (fun c_39 => ?_)
    refine ev_iload_n rfl rfl rfl ?_
    refine ev_if_eq rfl rfl (fun c_43 => ?_) (fun c_43 => ?_)
    · refine ev_iconst (v := 0) rfl rfl (by decide) ?_
      refine ev_istore_n rfl rfl rfl rfl ?_
      dsimp only [List.set]
      refine ev_iinc (y := 1) rfl rfl rfl (by decide) rfl rfl ?_
      dsimp only [List.set]
      refine ev_goto rfl rfl ?_
      have z_ := ih (i + 1) (by omega)
      simp only [s_mb, if_neg c_39, if_pos c_43] at z_
      rw [nI_1 i]
      exact z_
    · refine ev_aload_n rfl rfl rfl ?_
      refine ev_getR rfl rfl fl_X10_103 rfl rfl rfl rfl ?_
      refine ev_iload rfl rfl rfl ?_
      refine ev_iald rfl rfl rfl (vp_in_nI (by omega) (by decide)) (nI_clamp (by omega)) ?_
      refine ev_iload_n rfl rfl rfl ?_
      refine ev_icmp_eq rfl rfl (fun c_54 => ?_) (fun c_54 => ?_)
      · refine ev_iconst (v := 0) rfl rfl (by decide) ?_
        refine ev_istore_n rfl rfl rfl rfl ?_
        dsimp only [List.set]
        refine ev_iinc (y := 1) rfl rfl rfl (by decide) rfl rfl ?_
        dsimp only [List.set]
        refine ev_goto rfl rfl ?_
        have z_ := ih (i + 1) (by omega)
        simp only [s_mb, if_neg c_39, if_neg c_43, if_pos c_54] at z_
        rw [nI_1 i]
        exact z_
      · refine ev_iconst (v := 1) rfl rfl (by decide) ?_
        refine ev_goto rfl rfl ?_
        refine ev_istore_n rfl rfl rfl rfl ?_
        dsimp only [List.set]
        refine ev_iinc (y := 1) rfl rfl rfl (by decide) rfl rfl ?_
        dsimp only [List.set]
        refine ev_goto rfl rfl ?_
        have z_ := ih (i + 1) (by omega)
        simp only [s_mb, if_neg c_39, if_neg c_43, if_neg c_54] at z_
        rw [nI_1 i]
        exact z_

set_option maxRecDepth 100000 in
set_option maxHeartbeats 4000000 in
theorem c_mbend (L : Nat) (b : Bool) (h : Hp) (hB : Bx h) (m : Nat) (hm0 : m ≤ 6) (hm : h 63 48 = nI m) (p l : Int32) : EvD mi_X10_bend [.ref 63, .int p, .int l] (G0 L b) h (rmN h m p (z_g p l)) (kmN h m p l (z_g p l)) := by
  refine EvD.of (lo := [some (.ref 63), some (.int p), some (.int l), none, none]) pf_X10_bend ok_X10_bend rfl rfl ?_
  refine ev_iload_n rfl rfl rfl ?_
  refine ev_i2l rfl rfl ?_
  refine ev_lconst (v := 0) rfl rfl rfl ?_
  refine ev_ldc2 rfl rfl kc_X10_342 ?_
  refine ev_S3D rfl rfl lk_X10_124 st_X10_in rfl rfl (c_inw _ _ _ (0) (999) (by decide) (by decide)) ?_
  refine ev_if_eq rfl rfl (fun c_9 => ?_) (fun c_9 => ?_)
  · refine ev_iconst (v := 0) rfl rfl (by decide) ?_
    refine ev_istore_n rfl rfl rfl rfl ?_
    dsimp only [List.set]
    refine ev_iconst (v := 0) rfl rfl (by decide) ?_
    refine ev_istore rfl rfl rfl rfl ?_
    dsimp only [List.set]
    simp only [z_g, if_pos c_9]
    exact l_mbend L b h hB m hm0 hm p l _ m 0 (by omega)
  · refine ev_iload_n rfl rfl rfl ?_
    refine ev_i2l rfl rfl ?_
    refine ev_lconst (v := 1) rfl rfl rfl ?_
    refine ev_ldc2 rfl rfl kc_X10_344 ?_
    refine ev_S3D rfl rfl lk_X10_124 st_X10_in rfl rfl (c_inw _ _ _ (1) (99) (by decide) (by decide)) ?_
    refine ev_if_eq rfl rfl (fun c_21 => ?_) (fun c_21 => ?_)
    · refine ev_iconst (v := 0) rfl rfl (by decide) ?_
      refine ev_istore_n rfl rfl rfl rfl ?_
      dsimp only [List.set]
      refine ev_iconst (v := 0) rfl rfl (by decide) ?_
      refine ev_istore rfl rfl rfl rfl ?_
      dsimp only [List.set]
      simp only [z_g, if_neg c_9, if_pos c_21]
      exact l_mbend L b h hB m hm0 hm p l _ m 0 (by omega)
    · refine ev_iconst (v := 1) rfl rfl (by decide) ?_
      refine ev_goto rfl rfl ?_
      refine ev_istore_n rfl rfl rfl rfl ?_
      dsimp only [List.set]
      refine ev_iconst (v := 0) rfl rfl (by decide) ?_
      refine ev_istore rfl rfl rfl rfl ?_
      dsimp only [List.set]
      simp only [z_g, if_neg c_9, if_neg c_21]
      exact l_mbend L b h hB m hm0 hm p l _ m 0 (by omega)

set_option maxRecDepth 100000 in
set_option maxHeartbeats 4000000 in
theorem c_mspeed (L : Nat) (b : Bool) (h : Hp) (v : Int32) : EvD mi_X10_speed [.ref 63, .int v] (G0 L b) h (if z_wi v 1 99 = 0 then -1 else h 63 51) (if z_wi v 1 99 = 0 then h else ev_set h 63 51 v) := by
  refine EvD.of (lo := [some (.ref 63), some (.int v), none]) pf_X10_speed ok_X10_speed rfl rfl ?_
  refine ev_iload_n rfl rfl rfl ?_
  refine ev_i2l rfl rfl ?_
  refine ev_lconst (v := 1) rfl rfl rfl ?_
  refine ev_ldc2 rfl rfl kc_X10_344 ?_
  refine ev_S3D rfl rfl lk_X10_124 st_X10_in rfl rfl (c_inw _ _ _ (1) (99) (by decide) (by decide)) ?_
  refine ev_if_ne rfl rfl (fun c_9 => ?_) (fun c_9 => ?_)
  · refine ev_aload_n rfl rfl rfl ?_
    refine ev_getI rfl rfl fl_X10_109 rfl rfl rfl ?_
    try simp (disch := omega) only [ev_rd1, ev_rd2, ev_rd3, ev_rc1, k_keep_ne]
    refine ev_istore_n rfl rfl rfl rfl ?_
    dsimp only [List.set]
    refine ev_aload_n rfl rfl rfl ?_
    refine ev_iload_n rfl rfl rfl ?_
    refine ev_putI rfl rfl fl_X10_109 rfl rfl rfl rfl rfl ?_
    refine ev_iload_n rfl rfl rfl ?_
    exact ev_iret rfl rfl rfl (⟨congrArg (fun z => some (Value.int z)) (by simp only [if_neg c_9]), rfl, by simp only [if_neg c_9]⟩)
  · refine ev_iconst (v := (-1)) rfl rfl (by decide) ?_
    exact ev_iret rfl rfl rfl (⟨congrArg (fun z => some (Value.int z)) (by simp only [if_pos c_9]), rfl, by simp only [if_pos c_9]⟩)

theorem s_bd_iff (h : Hp) (p : Int32) : ∀ t i, s_bd h p i t = 0 ↔ ∀ j, i ≤ j → j < i + t → ¬ h 53 j = p
  | 0, i => ⟨fun _ j h1 h2 => absurd h2 (by omega), fun _ => rfl⟩
  | t + 1, i => by
    unfold s_bd
    by_cases c : h 53 i = p
    · rw [if_pos c]
      exact ⟨fun z => absurd z (by decide), fun z => absurd c (z i (Nat.le_refl i) (by omega))⟩
    · rw [if_neg c, s_bd_iff h p t (i + 1)]
      refine ⟨fun z j h1 h2 => ?_, fun z j h1 h2 => z j (by omega) (by omega)⟩
      by_cases e : j = i
      · rw [e]; exact c
      · exact z j (by omega) (by omega)
theorem s_mb_iff (h : Hp) (p : Int32) : ∀ k, ¬ s_mb h p 1 k = 0 ↔ ∀ j, j < k → ¬ h 90 j = p
  | 0 => ⟨fun _ j h1 => absurd h1 (by omega), fun _ => by unfold s_mb; decide⟩
  | k + 1 => by
    have ih := s_mb_iff h p k
    unfold s_mb
    by_cases c : s_mb h p 1 k = 0
    · rw [if_pos c]
      exact ⟨fun z => absurd rfl z, fun z => absurd c (ih.mpr (fun j hj => z j (by omega)))⟩
    · rw [if_neg c]
      have hz := ih.mp c
      by_cases c2 : h 90 k = p
      · rw [if_pos c2]
        exact ⟨fun z => absurd rfl z, fun z => absurd c2 (z k (by omega))⟩
      · rw [if_neg c2]
        refine ⟨fun _ j hj => ?_, fun _ => by decide⟩
        by_cases e : j = k
        · rw [e]; exact c2
        · exact hz j (by omega)
theorem s_mb_0 (h : Hp) (p : Int32) : ∀ k, s_mb h p 0 k = 0
  | 0 => rfl
  | k + 1 => by unfold s_mb; rw [if_pos (s_mb_0 h p k)]
def kcB (h : Hp) (p l : Int32) : Hp := if z_wi p 0 999 = 0 then h else if z_wi l 0 99 = 0 then h else k_boat h (h 50 2).toNatClampNeg p l
def rcB (h : Hp) (p l : Int32) : Int32 := if z_wi p 0 999 = 0 then -1 else if z_wi l 0 99 = 0 then -1 else z_addB (h 50 2) 4
theorem w_boatZ (L : Nat) (b : Bool) (h : Hp) (hB : Bx h) (p l : Int32) : EvI mi_X9_boat [.ref 1, .int p, .int l] (G0 L b) h (fun r z => r = rcB h p l ∧ z = kcB h p l) [(50, 2), (51, 999), (52, 999)] := by
  have p5 : B (h 50 2) 0 4 := hB 50 2
  refine (x_boat L b h _ (B.nI (u := 4) p5).2 (B.nI (u := 4) p5).1 p l).ix ?_
  split
  · exact JW.refl hB
  · split
    · exact JW.refl hB
    · unfold k_boat
      split
      · rename_i q3
        have b1 : B (h 50 2) 0 3 := R_ltX p5 (by decide : B 4 4 4) q3 (by decide)
        exact (((JW.refl hB).set rfl (B.any _)).set rfl (B.any _)).set rfl (B.mono (B.add b1 (by decide : B 1 1 1) (by decide) (by decide)).1 (by decide) (by decide))
      · exact JW.refl hB
theorem w_mboatZ (L : Nat) (b : Bool) (h : Hp) (hB : Bx h) (p l : Int32) : EvI mi_X10_boat [.ref 63, .int p, .int l] (G0 L b) h (fun r z => r = rmB (h 63 45) p l ∧ z = kmB h p l) [(63, 45), (88, 999), (89, 999)] := by
  have p5 : B (h 63 45) 0 4 := hB 63 45
  refine (c_mboatE L b h hB p l).ix ?_
  unfold kmB
  split
  · exact JW.refl hB
  · split
    · exact JW.refl hB
    · split
      · exact JW.refl hB
      · rename_i q3
        have b1 : B (h 63 45) 0 3 := R_neU p5 (by decide : B 4 4 4) q3 (by decide)
        exact (((JW.refl hB).set rfl (B.any _)).set rfl (B.any _)).set rfl (B.mono (B.add b1 (by decide : B 1 1 1) (by decide) (by decide)).1 (by decide) (by decide))
theorem rel_boat {h : Hp} (hB : Bx h) (hR : RV h) (p l : Int32) : rcB h p l = rmB (kcB h p l 63 45) p l ∧ RV (kmB (kcB h p l) p l) := by
  have p5 : B (h 50 2) 0 4 := hB 50 2
  obtain ⟨r1, r2, r3, r4, r5, r6, r7⟩ := hR
  have hR : RV h := ⟨r1, r2, r3, r4, r5, r6, r7⟩
  unfold rcB kcB rmB kmB
  by_cases q1 : z_wi p 0 999 = 0
  · simp only [if_pos q1]; exact ⟨trivial, hR⟩
  · simp only [if_neg q1]
    by_cases q2 : z_wi l 0 99 = 0
    · simp only [if_pos q2]; exact ⟨trivial, hR⟩
    · simp only [if_neg q2]
      unfold z_addB k_boat
      by_cases q3 : h 50 2 < 4
      · have q4 : ¬ h 63 45 = 4 := fun e => by rw [r1, e] at q3; exact absurd q3 (by decide)
        simp (disch := decide) only [if_pos q3, ev_rd2, if_neg q4]
        refine ⟨by rw [r1], ?_, ?_, ?_, fun j => ?_, fun j => ?_, fun j => ?_, fun j => ?_⟩ <;> simp (disch := decide) only [ev_rd1, ev_rd2, ev_rd3, ev_sj, r1, r2, r3, r4, r5, r6, r7]
      · have q4 : h 63 45 = 4 := by
          have e4 : (4 : Int32).toInt = 4 := by decide
          have z := w_nlt q3
          have z2 := p5.2
          rw [← r1]
          exact Int32.toInt_inj.mp (by omega)
        simp only [if_neg q3, if_pos q4]
        exact ⟨trivial, hR⟩
def kcN (h : Hp) (p l : Int32) : Hp := if z_wi p 0 999 = 0 then h else if z_wi l 1 99 = 0 then h else if s_bd h p 0 (h 50 5).toNatClampNeg = 0 then k_bend h (h 50 5).toNatClampNeg p l else h
def rcN (h : Hp) (p l : Int32) : Int32 := if z_wi p 0 999 = 0 then -1 else if z_wi l 1 99 = 0 then -1 else if s_bd h p 0 (h 50 5).toNatClampNeg = 0 then z_addN (h 50 5) else -1
theorem w_bendZ (L : Nat) (b : Bool) (h : Hp) (hB : Bx h) (p l : Int32) : EvI mi_X9_bend [.ref 1, .int p, .int l] (G0 L b) h (fun r z => r = rcN h p l ∧ z = kcN h p l) [(50, 5), (53, 999), (54, 999)] := by
  have p5 : B (h 50 5) 0 6 := hB 50 5
  refine (x_bend L b h _ (B.nI (u := 6) p5).2 (B.nI (u := 6) p5).1 p l).ix ?_
  split
  · exact JW.refl hB
  · split
    · exact JW.refl hB
    · split
      · unfold k_bend
        split
        · rename_i q3
          have b1 : B (h 50 5) 0 5 := R_ltX p5 (by decide : B 6 6 6) q3 (by decide)
          exact (((JW.refl hB).set rfl (B.any _)).set rfl (B.any _)).set rfl (B.mono (B.add b1 (by decide : B 1 1 1) (by decide) (by decide)).1 (by decide) (by decide))
        · exact JW.refl hB
      · exact JW.refl hB
theorem w_mbendZ (L : Nat) (b : Bool) (h : Hp) (hB : Bx h) (p l : Int32) : EvI mi_X10_bend [.ref 63, .int p, .int l] (G0 L b) h (fun r z => r = rmN h (h 63 48).toNatClampNeg p (z_g p l) ∧ z = kmN h (h 63 48).toNatClampNeg p l (z_g p l)) [(63, 48), (90, 999), (91, 999)] := by
  have p5 : B (h 63 48) 0 6 := hB 63 48
  refine (c_mbend L b h hB _ (B.nI (u := 6) p5).2 (B.nI (u := 6) p5).1 p l).ix ?_
  unfold kmN
  split
  · exact JW.refl hB
  · split
    · exact JW.refl hB
    · rename_i q3
      have b1 : B (h 63 48) 0 5 := R_neU p5 (by decide : B 6 6 6) q3 (by decide)
      exact (((JW.refl hB).set rfl (B.any _)).set rfl (B.any _)).set rfl (B.mono (B.add b1 (by decide : B 1 1 1) (by decide) (by decide)).1 (by decide) (by decide))
theorem rel_bend {h : Hp} (hB : Bx h) (hR : RV h) (p l : Int32) : rcN h p l = rmN (kcN h p l) (kcN h p l 63 48).toNatClampNeg p (z_g p l) ∧ RV (kmN (kcN h p l) (kcN h p l 63 48).toNatClampNeg p l (z_g p l)) := by
  have p5 : B (h 50 5) 0 6 := hB 50 5
  obtain ⟨r1, r2, r3, r4, r5, r6, r7⟩ := hR
  have hR : RV h := ⟨r1, r2, r3, r4, r5, r6, r7⟩
  unfold rcN kcN z_g
  by_cases q1 : z_wi p 0 999 = 0
  · simp only [if_pos q1]
    unfold rmN kmN
    simp only [if_pos (s_mb_0 h p _)]
    exact ⟨trivial, hR⟩
  · simp only [if_neg q1]
    by_cases q2 : z_wi l 1 99 = 0
    · simp only [if_pos q2]
      unfold rmN kmN
      simp only [if_pos (s_mb_0 h p _)]
      exact ⟨trivial, hR⟩
    · simp only [if_neg q2]
      by_cases qs : s_bd h p 0 (h 50 5).toNatClampNeg = 0
      · simp only [if_pos qs]
        have hz := (s_bd_iff h p _ 0).mp qs
        unfold rmN kmN z_addN k_bend
        by_cases q3 : h 50 5 < 6
        · have q4 : ¬ h 63 48 = 6 := fun e => by rw [r2, e] at q3; exact absurd q3 (by decide)
          simp only [if_pos q3]
          have e48 : ev_set (ev_set (ev_set h 53 (h 50 5).toNatClampNeg p) 54 (h 50 5).toNatClampNeg l) 50 5 (h 50 5 + 1) 63 48 = h 63 48 := by
            simp (disch := decide) only [ev_rd2]
          rw [e48]
          have qm : ¬ s_mb (ev_set (ev_set (ev_set h 53 (h 50 5).toNatClampNeg p) 54 (h 50 5).toNatClampNeg l) 50 5 (h 50 5 + 1)) p 1 (h 63 48).toNatClampNeg = 0 := (s_mb_iff _ p _).mpr (fun j hj => by
            simp (disch := decide) only [ev_rd2]
            rw [← r6 j]
            exact hz j (Nat.zero_le j) (by rw [r2]; omega))
          simp only [if_neg qm, if_neg q4]
          refine ⟨by rw [r2], ?_, ?_, ?_, fun j => ?_, fun j => ?_, fun j => ?_, fun j => ?_⟩ <;> simp (disch := decide) only [ev_rd1, ev_rd2, ev_rd3, ev_sj, r1, r2, r3, r4, r5, r6, r7]
        · have q4 : h 63 48 = 6 := by
            have e4 : (6 : Int32).toInt = 6 := by decide
            have z := w_nlt q3
            have z2 := p5.2
            rw [← r2]
            exact Int32.toInt_inj.mp (by omega)
          have qm : ¬ s_mb h p 1 (h 63 48).toNatClampNeg = 0 := (s_mb_iff _ p _).mpr (fun j hj => by
            rw [← r6 j]
            exact hz j (Nat.zero_le j) (by rw [r2]; omega))
          simp only [if_neg q3, if_neg qm, if_pos q4]
          exact ⟨trivial, hR⟩
      · simp only [if_neg qs]
        have qm : s_mb h p 1 (h 63 48).toNatClampNeg = 0 := Decidable.byContradiction (fun z => qs ((s_bd_iff h p _ 0).mpr (fun j h1 h2 => by
          rw [r6 j]
          exact (s_mb_iff h p _).mp z j (by rw [r2] at h2; omega))))
        unfold rmN kmN
        simp only [if_pos qm]
        exact ⟨trivial, hR⟩
def kcS (h : Hp) (v : Int32) : Hp := if z_wi v 1 99 = 0 then h else ev_set h 50 6 v
def rcS (h : Hp) (v : Int32) : Int32 := if z_wi v 1 99 = 0 then -1 else h 50 6
def kmSR (h : Hp) (v : Int32) : Hp := if z_wi v 1 99 = 0 then h else ev_set h 63 51 v
def rmS (h : Hp) (v : Int32) : Int32 := if z_wi v 1 99 = 0 then -1 else h 63 51
theorem w_speedZ (L : Nat) (b : Bool) (h : Hp) (hB : Bx h) (v : Int32) : EvI mi_X9_speed [.ref 1, .int v] (G0 L b) h (fun r z => r = rcS h v ∧ z = kcS h v) [(50, 6)] := by
  refine (x_speed L b h v).ix ?_
  split
  · exact JW.refl hB
  · exact (JW.refl hB).set rfl (B.any _)
theorem w_mspeedZ (L : Nat) (b : Bool) (h : Hp) (hB : Bx h) (v : Int32) : EvI mi_X10_speed [.ref 63, .int v] (G0 L b) h (fun r z => r = rmS h v ∧ z = kmSR h v) [(63, 51)] := by
  refine (c_mspeed L b h v).ix ?_
  split
  · exact JW.refl hB
  · rename_i q
    exact (JW.refl hB).set rfl (z_wi_B (by decide : B 1 1 1) (by decide : B 99 99 99) q)
theorem rel_speed {h : Hp} (_ : Bx h) (hR : RV h) (v : Int32) : rcS h v = rmS (kcS h v) v ∧ RV (kmSR (kcS h v) v) := by
  obtain ⟨r1, r2, r3, r4, r5, r6, r7⟩ := hR
  have hR : RV h := ⟨r1, r2, r3, r4, r5, r6, r7⟩
  unfold rcS kcS rmS kmSR
  by_cases q1 : z_wi v 1 99 = 0
  · simp only [if_pos q1]; exact ⟨trivial, hR⟩
  · simp only [if_neg q1]
    refine ⟨?_, ?_, ?_, ?_, fun j => ?_, fun j => ?_, fun j => ?_, fun j => ?_⟩ <;> simp (disch := decide) only [ev_rd1, ev_rd2, ev_rd3, ev_sj, r1, r2, r3, r4, r5, r6, r7]
