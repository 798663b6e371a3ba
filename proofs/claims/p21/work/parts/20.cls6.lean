def z_us (x y : Int32) : Int32 := (x.toUInt32 >>> (y.toUInt32 &&& Int32.toUInt32 31)).toInt32
def z_b1 (x : Int32) : Int32 := x - (z_us x 1 &&& 1431655765)
def z_b2 (x : Int32) : Int32 := (x &&& 858993459) + (z_us x 2 &&& 858993459)
def z_b3 (x : Int32) : Int32 := x + z_us x 4 &&& 252645135
def z_b4 (x : Int32) : Int32 := x + z_us x 8
def z_b5 (x : Int32) : Int32 := x + z_us x 16
def z_bc (x : Int32) : Int32 := z_b5 (z_b4 (z_b3 (z_b2 (z_b1 x)))) &&& 63
set_option maxRecDepth 100000 in
set_option maxHeartbeats 4000000 in
theorem c_bitCount (G : Geo) (h : Hp) (x : Int32) : EvD mi_J6_bitCount_0f7a4 [.int x] G h (z_bc x) (h) := by
  refine EvD.of (lo := [some (.int x)]) pf_J6_bitCount_0f7a4 ok_J6_bitCount_0f7a4 rfl rfl ?_
  refine ev_iload_n rfl rfl rfl ?_
  refine ev_iload_n rfl rfl rfl ?_
  refine ev_iconst (v := 1) rfl rfl (by decide) ?_
  refine ev_iushr rfl rfl ?_
  refine ev_ldcw rfl rfl kc_J6_265 ?_
  refine ev_iand rfl rfl ?_
  refine ev_isub rfl rfl ?_
  refine ev_istore_n rfl rfl rfl rfl ?_
  dsimp only [List.set]
  refine ev_iload_n rfl rfl rfl ?_
  refine ev_ldcw rfl rfl kc_J6_266 ?_
  refine ev_iand rfl rfl ?_
  refine ev_iload_n rfl rfl rfl ?_
  refine ev_iconst (v := 2) rfl rfl (by decide) ?_
  refine ev_iushr rfl rfl ?_
  refine ev_ldcw rfl rfl kc_J6_266 ?_
  refine ev_iand rfl rfl ?_
  refine ev_iadd rfl rfl ?_
  refine ev_istore_n rfl rfl rfl rfl ?_
  dsimp only [List.set]
  refine ev_iload_n rfl rfl rfl ?_
  refine ev_iload_n rfl rfl rfl ?_
  refine ev_iconst (v := 4) rfl rfl (by decide) ?_
  refine ev_iushr rfl rfl ?_
  refine ev_iadd rfl rfl ?_
  refine ev_ldcw rfl rfl kc_J6_267 ?_
  refine ev_iand rfl rfl ?_
  refine ev_istore_n rfl rfl rfl rfl ?_
  dsimp only [List.set]
  refine ev_iload_n rfl rfl rfl ?_
  refine ev_iload_n rfl rfl rfl ?_
  refine ev_bipush (v := 8) rfl rfl (by decide) ?_
  refine ev_iushr rfl rfl ?_
  refine ev_iadd rfl rfl ?_
  refine ev_istore_n rfl rfl rfl rfl ?_
  dsimp only [List.set]
  refine ev_iload_n rfl rfl rfl ?_
  refine ev_iload_n rfl rfl rfl ?_
  refine ev_bipush (v := 16) rfl rfl (by decide) ?_
  refine ev_iushr rfl rfl ?_
  refine ev_iadd rfl rfl ?_
  refine ev_istore_n rfl rfl rfl rfl ?_
  dsimp only [List.set]
  refine ev_iload_n rfl rfl rfl ?_
  refine ev_bipush (v := 63) rfl rfl (by decide) ?_
  refine ev_iand rfl rfl ?_
  exact ev_iret rfl rfl rfl (⟨rfl, rfl, rfl⟩)

def z_bt (x : Int64) (i : Nat) : Int32 := (x >>> ((56 - 8 * nI i).toInt64 &&& 63)).toInt32.toInt8.toInt32.toInt8.toInt32
def k_tp (h : Hp) (m : Nat) (x : Int64) : Nat → Hp
  | 0 => h
  | i + 1 => ev_set (k_tp h m x i) 24 (m + i) (z_bt x i)
theorem k_tp_ne {h : Hp} {m : Nat} {x : Int64} {i j : Nat} (hi : i ≠ 24) : ∀ n, k_tp h m x n i j = h i j
  | 0 => rfl
  | n + 1 => (if_neg (fun q => hi q.1)).trans (k_tp_ne hi n)
def k_app (h : Hp) (m : Nat) (x : Int64) : Hp := if h 23 1 + 8 ≤ 160 then ev_set (k_tp h m x 8) 23 1 (h 23 1 + 8) else h

set_option maxRecDepth 100000 in
set_option maxHeartbeats 4000000 in
theorem l_append (L : Nat) (b : Bool) (h : Hp) (m : Nat) (hm0 : m + 8 ≤ 160) (hm : h 23 1 = nI m) (x : Int64) : ∀ t i : Nat, i + t = 8 → EvQ mi_X2_append 17 [some (.ref 23), some (.long x), none, some (.int (nI i))] [] (G0 L b) (k_tp h m x i) 0 0 (fun v G' h' => v = some (.int 1) ∧ G' = G0 L b ∧ h' = ev_set (k_tp h m x 8) 23 1 (h 23 1 + 8)) := by
  intro t
  induction t with
  | zero =>
    intro i hi
    have hi2 : i = 8 := by omega
    subst hi2
    refine ev_iload_n rfl rfl rfl ?_
    refine ev_bipush (v := 8) rfl rfl (by decide) ?_
    refine ev_icmp_ge rfl rfl (fun c_20 => ?_) (fun z_ => absurd (show (8 : Int32) ≤ nI 8 by decide) z_)
    refine ev_aload_n rfl rfl rfl ?_
    refine ev_dup rfl rfl rfl ?_
    refine ev_getI rfl rfl fl_X2_15 rfl rfl rfl ?_
    try simp (disch := omega) only [ev_rd1, ev_rd2, ev_rd3, k_tp_ne]
    refine ev_bipush (v := 8) rfl rfl (by decide) ?_
    refine ev_iadd rfl rfl ?_
    refine ev_putI rfl rfl fl_X2_15 rfl rfl rfl rfl rfl ?_
    refine ev_iconst (v := 1) rfl rfl (by decide) ?_
    exact ev_iret rfl rfl rfl (⟨rfl, rfl, rfl⟩)
  | succ t ih =>
    intro i hi
    refine ev_iload_n rfl rfl rfl ?_
    refine ev_bipush (v := 8) rfl rfl (by decide) ?_
    refine ev_icmp_ge rfl rfl (fun z_ => absurd z_ (show ¬ nI 8 ≤ nI i from nI_ge (by omega) (by omega))) (fun c_20 => ?_)
    refine ev_aload_n rfl rfl rfl ?_
    refine ev_getR rfl rfl fl_X2_11 rfl rfl rfl rfl ?_
    refine ev_aload_n rfl rfl rfl ?_
    refine ev_getI rfl rfl fl_X2_15 rfl rfl rfl ?_
    try simp (disch := omega) only [ev_rd1, ev_rd2, ev_rd3, k_tp_ne]
    refine ev_iload_n rfl rfl rfl ?_
    refine ev_iadd rfl rfl ?_
    refine ev_lload_n rfl rfl rfl ?_
    refine ev_bipush (v := 56) rfl rfl (by decide) ?_
    refine ev_bipush (v := 8) rfl rfl (by decide) ?_
    refine ev_iload_n rfl rfl rfl ?_
    refine ev_imul rfl rfl ?_
    refine ev_isub rfl rfl ?_
    refine ev_lshr rfl rfl ?_
    refine ev_l2i rfl rfl ?_
    refine ev_i2b rfl rfl ?_
    refine ev_bast (j := m + i) rfl rfl rfl rfl (by rw [hm, nI_add]; exact vp_in_nI (by omega) (by decide)) (by rw [hm, nI_add]; exact nI_clamp (by omega)) ?_
    refine ev_iinc (y := 1) rfl rfl rfl (by decide) rfl rfl ?_
    dsimp only [List.set]
    refine ev_goto rfl rfl ?_
    have z_ := ih (i + 1) (by omega)
    simp only [k_tp, z_bt] at z_
    rw [nI_1 i]
    exact z_

set_option maxRecDepth 100000 in
set_option maxHeartbeats 4000000 in
theorem c_append (L : Nat) (b : Bool) (h : Hp) (m : Nat) (hm0 : m ≤ 160) (hm : h 23 1 = nI m) (x : Int64) : EvD mi_X2_append [.ref 23, .long x] (G0 L b) h (if h 23 1 + 8 ≤ 160 then 1 else 0) (k_app h m x) := by
  refine EvD.of (lo := [some (.ref 23), some (.long x), none, none]) pf_X2_append ok_X2_append rfl rfl ?_
  refine ev_aload_n rfl rfl rfl ?_
  refine ev_getI rfl rfl fl_X2_15 rfl rfl rfl ?_
  refine ev_bipush (v := 8) rfl rfl (by decide) ?_
  refine ev_iadd rfl rfl ?_
  refine ev_sipush (v := 160) rfl rfl (by decide) ?_
  refine ev_icmp_le rfl rfl (fun c_10 => ?_) (fun c_10 => ?_)
  · have q8 : m + 8 ≤ 160 := by
      have q_ := c_10
      rw [hm] at q_
      exact (nI_leI (a := m + 8) (b := 160) (by omega) (by decide)).mp (by rw [← nI_add]; exact q_)
    refine ev_iconst (v := 0) rfl rfl (by decide) ?_
    refine ev_istore_n rfl rfl rfl rfl ?_
    dsimp only [List.set]
    refine EvQ.mono (l_append L b h m q8 hm x 8 0 (by omega)) (Nat.le_refl _) (Nat.le_refl _) ?_
    intro v G' h' q_
    exact ⟨q_.1.trans (congrArg (fun z => some (Value.int z)) (if_pos c_10).symm), q_.2.1, q_.2.2.trans (by simp only [k_app, if_pos c_10])⟩
  · refine ev_iconst (v := 0) rfl rfl (by decide) ?_
    exact ev_iret rfl rfl rfl (⟨congrArg (fun z => some (Value.int z)) (if_neg c_10).symm, rfl, by simp only [k_app, if_neg c_10]⟩)

set_option maxRecDepth 100000 in
set_option maxHeartbeats 4000000 in
theorem x_feed (L : Nat) (b : Bool) (h : Hp) (m : Nat) (hm0 : m ≤ 160) (hm : h 23 1 = nI m) (x : Int64) : EvD mi_X9_feed [.ref 1, .long x] (G0 L b) h (if h 23 1 + 8 ≤ 160 then h 23 1 + 8 else -3) (k_app h m x) := by
  refine EvD.of (lo := [some (.ref 1), some (.long x), none]) pf_X9_feed ok_X9_feed rfl rfl ?_
  refine ev_aload_n rfl rfl rfl ?_
  refine ev_getR rfl rfl fl_X9_36 rfl rfl rfl rfl ?_
  refine ev_lload_n rfl rfl rfl ?_
  refine ev_V1D rfl rfl lk_X9_169 vt_X2_append rfl rfl rfl rfl rfl (c_append _ _ _ m hm0 hm _) ?_
  refine ev_if_eq rfl rfl (fun c_8 => ?_) (fun c_8 => ?_)
  · have q8 : ¬ h 23 1 + 8 ≤ 160 := by
      intro q_
      rw [if_pos q_] at c_8
      exact absurd c_8 (by decide)
    refine ev_bipush (v := (-3)) rfl rfl (by decide) ?_
    exact ev_iret rfl rfl rfl (⟨congrArg (fun z => some (Value.int z)) (by first | (rw [if_pos q8]; simp only [k_app, if_pos q8]; rfl) | rw [if_neg q8]), rfl, rfl⟩)
  · have q8 : h 23 1 + 8 ≤ 160 := by
      by_cases q_ : h 23 1 + 8 ≤ 160
      · exact q_
      · rw [if_neg q_] at c_8
        exact absurd rfl c_8
    refine ev_aload_n rfl rfl rfl ?_
    refine ev_getR rfl rfl fl_X9_36 rfl rfl rfl rfl ?_
    refine ev_getI rfl rfl fl_X9_173 rfl rfl rfl ?_
    refine ev_goto rfl rfl ?_
    exact ev_iret rfl rfl rfl (⟨congrArg (fun z => some (Value.int z)) (by first | (rw [if_pos q8]; simp only [k_app, if_pos q8]; rfl) | rw [if_neg q8]), rfl, rfl⟩)

set_option maxRecDepth 100000 in
set_option maxHeartbeats 4000000 in
theorem c_fail (L : Nat) (b : Bool) (h : Hp) (f p : Int32) : EvU mi_X2_fail [.ref 23, .int f, .int p] (G0 L b) h (ev_set (ev_set h 23 7 f) 23 8 p) := by
  refine EvU.of (lo := [some (.ref 23), some (.int f), some (.int p)]) pf_X2_fail ok_X2_fail rfl rfl ?_
  refine ev_aload_n rfl rfl rfl ?_
  refine ev_iload_n rfl rfl rfl ?_
  refine ev_putI rfl rfl fl_X2_34 rfl rfl rfl rfl rfl ?_
  refine ev_aload_n rfl rfl rfl ?_
  refine ev_iload_n rfl rfl rfl ?_
  refine ev_putI rfl rfl fl_X2_37 rfl rfl rfl rfl rfl ?_
  exact ev_vret rfl rfl trivial (⟨rfl, rfl, rfl⟩)

set_option maxRecDepth 100000 in
set_option maxHeartbeats 4000000 in
theorem c_misplaced (L : Nat) (b : Bool) (h : Hp)  : EvD mi_X2_misplaced [.ref 23] (G0 L b) h (3) (ev_set (ev_set h 23 7 2) 23 8 (h 23 4)) := by
  refine EvD.of (lo := [some (.ref 23)]) pf_X2_misplaced ok_X2_misplaced rfl rfl ?_
  refine ev_aload_n rfl rfl rfl ?_
  refine ev_iconst (v := 2) rfl rfl (by decide) ?_
  refine ev_aload_n rfl rfl rfl ?_
  refine ev_getI rfl rfl fl_X2_25 rfl rfl rfl ?_
  refine ev_V2U rfl rfl lk_X2_79 vt_X2_fail rfl rfl rfl rfl rfl (c_fail _ _ _ _ _) ?_
  refine ev_iconst (v := 3) rfl rfl (by decide) ?_
  exact ev_iret rfl rfl rfl (⟨rfl, rfl, rfl⟩)

