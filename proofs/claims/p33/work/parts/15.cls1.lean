theorem ev_rd1 (h : Hp) (a k : Nat) (x : Int32) : ev_set h a k x a k = x := if_pos ⟨rfl, rfl⟩
theorem ev_rd2 {h : Hp} {a k i j : Nat} {x : Int32} (hne : i ≠ a) : ev_set h a k x i j = h i j := if_neg (fun q => hne q.1)
theorem ev_rd3 {h : Hp} {a k i j : Nat} {x : Int32} (hne : j ≠ k) : ev_set h a k x i j = h i j := if_neg (fun q => hne q.2)
theorem ev_rc1 {h : Hp} {x y s d n i j : Nat} (hne : i ≠ y) : ev_cpy h x y s d n i j = h i j := if_neg hne
theorem ev_sw (x : Int32) (lw hi : Int) : (x.toInt < lw ∨ hi < x.toInt) ∨ (¬ x.toInt < lw ∧ ¬ hi < x.toInt) := by omega
theorem g_pos (a n : Nat) (h : Nat.blt 0 a = true) : Nat.blt 0 (a + n) = true := Nat.ble_eq_true_of_le (Nat.le_trans (Nat.le_of_ble_eq_true h) (Nat.le_add_right a n))
theorem z_has_in {w : Int32} {n m : Nat} (h : ¬ (if w < 0 then (0 : Int32) else if nI n ≤ w then 0 else 1) = 0) (hn : n ≤ m) (hm : m < 2 ^ 31) : ∃ k, k < n ∧ w = nI k ∧ vp_in w m := by
  by_cases h1 : w < 0
  · rw [if_pos h1] at h; exact absurd rfl h
  · rw [if_neg h1] at h
    by_cases h2 : nI n ≤ w
    · rw [if_pos h2] at h; exact absurd rfl h
    · rcases pk_ix w (n := n) (by omega) with q | q | ⟨k, hk, rfl⟩
      · exact absurd q h1
      · exact absurd q h2
      · exact ⟨k, hk, rfl, vp_in_nI (by omega) hm⟩
def z_has (w n : Int32) : Int32 := if w < 0 then 0 else if n ≤ w then 0 else 1
theorem z_has_b (w n : Int32) : narrow .boolean (.int (z_has w n)) = .int (z_has w n) := by
  unfold z_has
  split
  · rfl
  · split <;> rfl
theorem EvQ.drop {mi : MI} {pc : Nat} {lo : List (Option Value)} {st : List Value} {G : Geo} {h : Hp} {kc ks : Nat} {Q : Pst} (n : Nat) (k : EvQ mi pc (lo.set n none) st G h kc ks Q) : EvQ mi pc lo st G h kc ks Q := by
  intro p l e R s m args below meth c b base ls H locs cells slots Qf C hL hS hB hcc hss hret
  refine k p l e R s m args below meth c b base ls H locs cells slots Qf C ?_ hS hB hcc hss hret
  obtain ⟨l0, h1, h2⟩ := hL
  refine ⟨l0, h1, fun i v hi => h2 i v ?_⟩
  by_cases e : i = n
  · subst e
    have hl : i < lo.length := by
      have := (List.getElem?_eq_some_iff.mp hi).1
      simpa using this
    rw [List.getElem?_set_self hl] at hi
    cases hi
  · rw [List.getElem?_set_ne (Ne.symm e)] at hi
    exact hi

theorem g_act (L : Nat) (b : Bool) {n : Nat} (hn : n < 10) : ev_gr (G0 L b) 12 n = some (13 + n) ∧ ev_sh (G0 L b) (13 + n) = some (.inr (.int, 30)) := by
  rcases (show n = 0 ∨ n = 1 ∨ n = 2 ∨ n = 3 ∨ n = 4 ∨ n = 5 ∨ n = 6 ∨ n = 7 ∨ n = 8 ∨ n = 9 by omega) with rfl | rfl | rfl | rfl | rfl | rfl | rfl | rfl | rfl | rfl <;> exact ⟨rfl, rfl⟩
theorem g_tun (L : Nat) (b : Bool) {n : Nat} (hn : n < 6) : ev_gr (G0 L b) 29 n = some (30 + n) ∧ ev_sh (G0 L b) (30 + n) = some (.inr (.int, 24)) := by
  rcases (show n = 0 ∨ n = 1 ∨ n = 2 ∨ n = 3 ∨ n = 4 ∨ n = 5 by omega) with rfl | rfl | rfl | rfl | rfl | rfl <;> exact ⟨rfl, rfl⟩
theorem g_sht (L : Nat) (b : Bool) {n : Nat} (hn : n < 4) : ev_gr (G0 L b) 56 n = some (57 + n) ∧ ev_sh (G0 L b) (57 + n) = some (.inr (.int, 60)) := by
  rcases (show n = 0 ∨ n = 1 ∨ n = 2 ∨ n = 3 by omega) with rfl | rfl | rfl | rfl <;> exact ⟨rfl, rfl⟩

set_option maxRecDepth 100000 in
set_option maxHeartbeats 4000000 in
theorem c_X8_has (L : Nat) (b : Bool) (h : Hp) (w : Int32) : EvD mi_X8_has [.ref 4, .int w] (G0 L b) h (z_has w (h 4 7)) (h) := by
  refine EvD.of (lo := [some (.ref 4), some (.int w)]) pf_X8_has ok_X8_has rfl rfl ?_
  refine ev_iconst (v := 0) rfl rfl (by decide) ?_
  refine ev_iload_n rfl rfl rfl ?_
  refine ev_icmp_gt rfl rfl (fun c_2 => ?_) (fun c_2 => ?_)
  · refine ev_iconst (v := 0) rfl rfl (by decide) ?_
    exact ev_iret rfl rfl rfl (⟨congrArg (fun z => some (Value.int z)) (by simp only [z_has, if_pos c_2]), rfl, rfl⟩)
  · refine ev_iload_n rfl rfl rfl ?_
    refine ev_aload_n rfl rfl rfl ?_
    refine ev_getI rfl rfl fl_X8_35 rfl rfl rfl ?_
    refine ev_icmp_ge rfl rfl (fun c_10 => ?_) (fun c_10 => ?_)
    · refine ev_iconst (v := 0) rfl rfl (by decide) ?_
      exact ev_iret rfl rfl rfl (⟨congrArg (fun z => some (Value.int z)) (by simp only [z_has, if_neg c_2, if_pos c_10]), rfl, rfl⟩)
    · refine ev_iconst (v := 1) rfl rfl (by decide) ?_
      refine ev_goto rfl rfl ?_
      exact ev_iret rfl rfl rfl (⟨congrArg (fun z => some (Value.int z)) (by simp only [z_has, if_neg c_2, if_neg c_10]), rfl, rfl⟩)

set_option maxRecDepth 100000 in
set_option maxHeartbeats 4000000 in
theorem c_isKey (G : Geo) (h : Hp) (v : Int32) : EvD mi_X9_isKey [.int v] G h (z_wi v (-11) 11) (h) := by
  refine EvD.of (lo := [some (.int v)]) pf_X9_isKey ok_X9_isKey rfl rfl ?_
  refine ev_iload_n rfl rfl rfl ?_
  refine ev_bipush (v := (-11)) rfl rfl (by decide) ?_
  refine ev_bipush (v := 11) rfl rfl (by decide) ?_
  refine ev_S3D rfl rfl lk_X9_75 st_X9_isWithin rfl rfl (c_isWithin _ _ _ _ _) ?_
  exact ev_iret rfl rfl (z_wi_b _ _ _) (⟨rfl, rfl, rfl⟩)

/-- what keep() leaves: the row n of the ring, the ring's numbers -/
def k_keep (h : Hp) (n : Nat) : Hp := fun i j =>
  if i = 13 + n then (if j < 6 then (if j = 5 then h 4 6 else h 2 j) else if j < 18 then h 9 (j - 6) else if j < 30 then h 10 (j - 18) else h i j)
  else if i = 11 then (if j = 1 then (nI n + 1) - (nI n + 1) / 10 * 10 else if j = 2 then z_min 10 (h 11 2 + 1) else if j = 3 then h 11 3 + 1 else h 11 j)
  else h i j
theorem k_keep_ne {h : Hp} {n i j : Nat} (h1 : i ≠ 13 + n) (h2 : i ≠ 11) : k_keep h n i j = h i j := by
  unfold k_keep
  rw [if_neg h1, if_neg h2]

set_option maxRecDepth 100000 in
set_option maxHeartbeats 4000000 in
theorem c_keep (L : Nat) (b : Bool) (h : Hp) (n : Nat) (hn : n < 10) (hx : h 11 1 = nI n) : EvU mi_X0_keep [.ref 11, .ref 2, .ref 4] (G0 L b) h (k_keep h n) := by
  refine EvU.of (lo := [some (.ref 11), some (.ref 2), some (.ref 4), none]) pf_X0_keep ok_X0_keep rfl rfl ?_
  refine ev_aload_n rfl rfl rfl ?_
  refine ev_getR rfl rfl fl_X0_13 rfl rfl rfl rfl ?_
  refine ev_aload_n rfl rfl rfl ?_
  refine ev_getI rfl rfl fl_X0_16 rfl rfl rfl ?_
  refine ev_aald (y := 13 + n) (j := n) rfl rfl rfl rfl (by rw [hx]; exact vp_in_nI hn (by decide)) (by rw [hx]; exact nI_clamp (by omega)) (g_act L b hn).1 ?_
  refine ev_astore_n rfl rfl rfl rfl ?_
  dsimp only [List.set]
  refine ev_aload_n rfl rfl rfl ?_
  refine ev_iconst (v := 0) rfl rfl (by decide) ?_
  refine ev_aload_n rfl rfl rfl ?_
  refine ev_getI rfl rfl fl_X0_26 rfl rfl rfl ?_
  refine ev_iast (j := 0) rfl rfl (g_pos 13 n rfl) (g_act L b hn).2 (by unfold vp_in; decide) (by decide) ?_
  refine ev_aload_n rfl rfl rfl ?_
  refine ev_iconst (v := 1) rfl rfl (by decide) ?_
  refine ev_aload_n rfl rfl rfl ?_
  refine ev_getI rfl rfl fl_X0_31 rfl rfl rfl ?_
  try simp (disch := omega) only [ev_rd1, ev_rd2, ev_rd3, ev_rc1, k_keep_ne]
  refine ev_iast (j := 1) rfl rfl (g_pos 13 n rfl) (g_act L b hn).2 (by unfold vp_in; decide) (by decide) ?_
  refine ev_aload_n rfl rfl rfl ?_
  refine ev_iconst (v := 2) rfl rfl (by decide) ?_
  refine ev_aload_n rfl rfl rfl ?_
  refine ev_getI rfl rfl fl_X0_34 rfl rfl rfl ?_
  try simp (disch := omega) only [ev_rd1, ev_rd2, ev_rd3, ev_rc1, k_keep_ne]
  refine ev_iast (j := 2) rfl rfl (g_pos 13 n rfl) (g_act L b hn).2 (by unfold vp_in; decide) (by decide) ?_
  refine ev_aload_n rfl rfl rfl ?_
  refine ev_iconst (v := 3) rfl rfl (by decide) ?_
  refine ev_aload_n rfl rfl rfl ?_
  refine ev_getI rfl rfl fl_X0_37 rfl rfl rfl ?_
  try simp (disch := omega) only [ev_rd1, ev_rd2, ev_rd3, ev_rc1, k_keep_ne]
  refine ev_iast (j := 3) rfl rfl (g_pos 13 n rfl) (g_act L b hn).2 (by unfold vp_in; decide) (by decide) ?_
  refine ev_aload_n rfl rfl rfl ?_
  refine ev_iconst (v := 4) rfl rfl (by decide) ?_
  refine ev_aload_n rfl rfl rfl ?_
  refine ev_getI rfl rfl fl_X0_40 rfl rfl rfl ?_
  try simp (disch := omega) only [ev_rd1, ev_rd2, ev_rd3, ev_rc1, k_keep_ne]
  refine ev_iast (j := 4) rfl rfl (g_pos 13 n rfl) (g_act L b hn).2 (by unfold vp_in; decide) (by decide) ?_
  refine ev_aload_n rfl rfl rfl ?_
  refine ev_iconst (v := 5) rfl rfl (by decide) ?_
  refine ev_aload_n rfl rfl rfl ?_
  refine ev_getI rfl rfl fl_X0_43 rfl rfl rfl ?_
  try simp (disch := omega) only [ev_rd1, ev_rd2, ev_rd3, ev_rc1, k_keep_ne]
  refine ev_iast (j := 5) rfl rfl (g_pos 13 n rfl) (g_act L b hn).2 (by unfold vp_in; decide) (by decide) ?_
  refine ev_aload_n rfl rfl rfl ?_
  refine ev_getR rfl rfl fl_X0_48 rfl rfl rfl rfl ?_
  refine ev_iconst (v := 0) rfl rfl (by decide) ?_
  refine ev_aload_n rfl rfl rfl ?_
  refine ev_bipush (v := 6) rfl rfl (by decide) ?_
  refine ev_bipush (v := 12) rfl rfl (by decide) ?_
  refine ev_copy (sN := 0) (dN := 6) (nN := 12) rfl rfl cp_X0_52 cp_n cp_s cp_i rfl (g_pos 13 n rfl) rfl (g_act L b hn).2 (by decide) (by decide) (by decide) (by decide) (by decide) (by decide) (by decide) (by decide) rfl rfl (by decide) ?_
  refine ev_aload_n rfl rfl rfl ?_
  refine ev_getR rfl rfl fl_X0_58 rfl rfl rfl rfl ?_
  refine ev_iconst (v := 0) rfl rfl (by decide) ?_
  refine ev_aload_n rfl rfl rfl ?_
  refine ev_bipush (v := 18) rfl rfl (by decide) ?_
  refine ev_bipush (v := 12) rfl rfl (by decide) ?_
  refine ev_copy (sN := 0) (dN := 18) (nN := 12) rfl rfl cp_X0_52 cp_n cp_s cp_i rfl (g_pos 13 n rfl) rfl (g_act L b hn).2 (by decide) (by decide) (by decide) (by decide) (by decide) (by decide) (by decide) (by decide) rfl rfl (by decide) ?_
  refine ev_aload_n rfl rfl rfl ?_
  refine ev_aload_n rfl rfl rfl ?_
  refine ev_getI rfl rfl fl_X0_16 rfl rfl rfl ?_
  try simp (disch := omega) only [ev_rd1, ev_rd2, ev_rd3, ev_rc1, k_keep_ne]
  refine ev_iconst (v := 1) rfl rfl (by decide) ?_
  refine ev_iadd rfl rfl ?_
  refine ev_bipush (v := 10) rfl rfl (by decide) ?_
  refine ev_irem rfl rfl (by decide) ?_
  refine ev_putI rfl rfl fl_X0_16 rfl rfl rfl rfl rfl ?_
  refine ev_aload_n rfl rfl rfl ?_
  refine ev_bipush (v := 10) rfl rfl (by decide) ?_
  refine ev_aload_n rfl rfl rfl ?_
  refine ev_getI rfl rfl fl_X0_20 rfl rfl rfl ?_
  try simp (disch := omega) only [ev_rd1, ev_rd2, ev_rd3, ev_rc1, k_keep_ne]
  refine ev_iconst (v := 1) rfl rfl (by decide) ?_
  refine ev_iadd rfl rfl ?_
  refine ev_S2D rfl rfl lk_X0_61 st_J9_min_7cf53 rfl rfl (c_min _ _ _ _) ?_
  refine ev_putI rfl rfl fl_X0_20 rfl rfl rfl rfl rfl ?_
  refine ev_aload_n rfl rfl rfl ?_
  refine ev_dup rfl rfl rfl ?_
  refine ev_getI rfl rfl fl_X0_23 rfl rfl rfl ?_
  try simp (disch := omega) only [ev_rd1, ev_rd2, ev_rd3, ev_rc1, k_keep_ne]
  refine ev_iconst (v := 1) rfl rfl (by decide) ?_
  refine ev_iadd rfl rfl ?_
  refine ev_putI rfl rfl fl_X0_23 rfl rfl rfl rfl rfl ?_
  exact ev_vret rfl rfl trivial (⟨rfl, rfl, by
      funext i j
      by_cases h1 : i = 13 + n
      · subst h1
        have q1 : ¬ (13 + n = 11) := by omega
        have q2 : ¬ (13 + n = 9) := by omega
        have q3 : ¬ (13 + n = 10) := by omega
        simp only [ev_set, ev_cpy, va_cpy, k_keep, q1, q2, q3, false_and, true_and, if_true, if_false, if_pos]
        repeat' split
        all_goals first | rfl | (exfalso; omega) | (subst_vars; rfl) | (congr 1; omega)
      · by_cases h2 : i = 11
        · subst h2
          simp only [ev_set, ev_cpy, va_cpy, k_keep, h1, false_and, true_and, if_true, if_false]
          repeat' split
          all_goals first | rfl | (exfalso; omega) | (subst_vars; simp [hx])
        · simp only [ev_set, ev_cpy, k_keep, h1, h2, false_and, if_false]⟩)

