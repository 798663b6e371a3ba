/-- a method whose answer alone counts -/
def EvX (mi : MI) (args : List Value) (G : Geo) (h : Hp) (r : Int32) : Prop := EvM mi args G h 0 0 (fun v G' _ => v = some (.int r) ∧ G' = G)
theorem EvD.x {mi : MI} {args : List Value} {G : Geo} {h h1 : Hp} {r : Int32} (k : EvD mi args G h r h1) : EvX mi args G h r := EvM.mono k (fun _ _ _ q => ⟨q.1, q.2.1⟩)
theorem EvX.to {mi : MI} {args : List Value} {G : Geo} {h : Hp} {r r2 : Int32} (k : EvX mi args G h r) (e1 : r = r2) : EvX mi args G h r2 := by subst e1; exact k
section EVX
variable {mi ce : MI} {pc nx tg ix : Nat} {lo : List (Option Value)} {st : List Value} {G : Geo} {h h1 : Hp} {kc ks : Nat} {Q : Pst} {r : Int32} {v1 v2 v3 v4 v5 v6 v7 : Value} {a c : Nat}
end EVX
theorem z_in_wi (v a b : Int32) : z_in v.toInt64 a.toInt64 b.toInt64 = z_wi v a b := by
  unfold z_in z_wi
  have e1 : (lg_cmp v.toInt64 a.toInt64 < 0) ↔ v < a := by
    rw [← Int32.not_le, lg_cmp_ge, Int64.le_iff_toInt_le, Int32.toInt_toInt64, Int32.toInt_toInt64, Int32.lt_iff_toInt_lt]
    omega
  have e2 : (0 < lg_cmp v.toInt64 b.toInt64) ↔ b < v := by
    unfold lg_cmp
    simp only [gt_iff_lt, Int64.lt_iff_toInt_lt, Int32.lt_iff_toInt_lt, ← Int64.toInt_inj, Int32.toInt_toInt64]
    by_cases q : b.toInt < v.toInt
    · rw [if_pos q]; exact ⟨fun _ => q, fun _ => by decide⟩
    · rw [if_neg q]
      refine ⟨fun z => ?_, fun z => absurd z q⟩
      split at z
      · exact absurd z (by decide)
      · exact absurd z (by decide)
  by_cases q1 : v < a
  · rw [if_pos q1, if_pos (e1.mpr q1)]
  · rw [if_neg q1, if_neg (fun z => q1 (e1.mp z))]
    by_cases q2 : b < v
    · rw [if_pos q2, if_pos (e2.mpr q2)]
    · rw [if_neg q2, if_neg (fun z => q2 (e2.mp z))]
theorem c_inw (G : Geo) (h : Hp) (v a b : Int32) {a6 b6 : Int64} (ea : a6 = a.toInt64) (eb : b6 = b.toInt64) : EvD mi_X10_in [.long v.toInt64, .long a6, .long b6] G h (z_wi v a b) h := by
  subst ea
  subst eb
  exact (c_in G h v.toInt64 a.toInt64 b.toInt64).to (z_in_wi v a b) rfl
def k_mk0 (h : Hp) (n : Nat) : Hp := ev_set (ev_set (ev_set (ev_set (ev_set (ev_set h 71 (42 * n) (h 63 0)) 71 (42 * n + 1) (h 63 1)) 71 (42 * n + 2) (h 63 2)) 71 (42 * n + 3) (h 63 3)) 71 (42 * n + 4) (h 63 4)) 71 (42 * n + 5) (h 63 5)
def z_01 (x : Int32) : Int32 := if x = 0 then 0 else 1
def k_mk (h : Hp) (n : Nat) : Nat → Hp
  | 0 => k_mk0 h n
  | i + 1 => ev_set (ev_set (ev_set (k_mk h n i) 71 (42 * n + 6 + i) (h 68 i)) 71 (42 * n + 18 + i) (h 69 i)) 71 (42 * n + 30 + i) (z_01 (h 70 i))
theorem k_mk_ne {h : Hp} {n i j : Nat} (hi : i ≠ 71) : ∀ t, k_mk h n t i j = h i j
  | 0 => by unfold k_mk k_mk0; simp only [ev_set, hi, false_and, if_false]
  | t + 1 => by unfold k_mk; simp only [ev_set, hi, false_and, if_false]; exact k_mk_ne hi t
def k_mkeep (h : Hp) (n : Nat) : Hp := ev_set (k_mk h n 12) 63 13 (h 63 13 + 1)
theorem nI_mul (a b : Nat) : nI a * nI b = nI (a * b) := (Int32.ofNat_mul a b).symm

set_option maxRecDepth 100000 in
set_option maxHeartbeats 4000000 in
theorem l_mkeeps (L : Nat) (b : Bool) (h : Hp) (n : Nat) (hn : n < 10) (hx : h 63 13 = nI n)  : ∀ t i : Nat, i + t = 12 → EvQ mi_X10_keeps 130 [some (.ref 63), some (.int (nI (42 * n))), some (.int (nI i))] [] (G0 L b) (k_mk h n i) 0 0 (fun v G' h' => v = none ∧ G' = G0 L b ∧ h' = k_mkeep h n) := by
  intro t
  induction t with
  | zero =>
    intro i hi
    have hi2 : i = 12 := by omega
    subst hi2
    refine ev_iload_n rfl rfl rfl ?_
    refine ev_bipush (v := 12) rfl rfl (by decide) ?_
    refine ev_icmp_ge rfl rfl (fun c_133 => ?_) (fun z_ => absurd (show (12 : Int32) ≤ nI 12 by decide) z_)
    refine ev_aload_n rfl rfl rfl ?_
    refine ev_dup rfl rfl rfl ?_
    refine ev_getI rfl rfl fl_X10_128 rfl rfl rfl ?_
    try simp (disch := omega) only [ev_rd1, ev_rd2, ev_rd3, k_mk_ne]
    refine ev_iconst (v := 1) rfl rfl (by decide) ?_
    refine ev_iadd rfl rfl ?_
    refine ev_putI rfl rfl fl_X10_128 rfl rfl rfl rfl rfl ?_
    exact ev_vret rfl rfl trivial (⟨rfl, rfl, rfl⟩)
  | succ t ih =>
    intro i hi
    refine ev_iload_n rfl rfl rfl ?_
    refine ev_bipush (v := 12) rfl rfl (by decide) ?_
    refine ev_icmp_ge rfl rfl (fun z_ => absurd z_ (show ¬ nI 12 ≤ nI i from nI_ge (by omega) (by omega))) (fun c_133 => ?_)
    refine ev_aload_n rfl rfl rfl ?_
    refine ev_getR rfl rfl fl_X10_45 rfl rfl rfl rfl ?_
    refine ev_iload_n rfl rfl rfl ?_
    refine ev_bipush (v := 6) rfl rfl (by decide) ?_
    refine ev_iadd rfl rfl ?_
    refine ev_iload_n rfl rfl rfl ?_
    refine ev_iadd rfl rfl ?_
    refine ev_aload_n rfl rfl rfl ?_
    refine ev_getR rfl rfl fl_X10_36 rfl rfl rfl rfl ?_
    refine ev_iload_n rfl rfl rfl ?_
    refine ev_iald rfl rfl rfl (vp_in_nI (by omega) (by decide)) (nI_clamp (by omega)) ?_
    try simp (disch := omega) only [ev_rd1, ev_rd2, ev_rd3, k_mk_ne]
    refine ev_iast (j := 42 * n + 6 + i) rfl rfl rfl rfl (by rw [show nI (42 * n) + 6 + nI i = nI (42 * n + 6 + i) from by rw [show nI (42 * n) + 6 = nI (42 * n + 6) from nI_add _ 6, nI_add]]; exact vp_in_nI (by omega) (by decide)) (by rw [show nI (42 * n) + 6 + nI i = nI (42 * n + 6 + i) from by rw [show nI (42 * n) + 6 = nI (42 * n + 6) from nI_add _ 6, nI_add]]; exact nI_clamp (by omega)) ?_
    refine ev_aload_n rfl rfl rfl ?_
    refine ev_getR rfl rfl fl_X10_45 rfl rfl rfl rfl ?_
    refine ev_iload_n rfl rfl rfl ?_
    refine ev_bipush (v := 18) rfl rfl (by decide) ?_
    refine ev_iadd rfl rfl ?_
    refine ev_iload_n rfl rfl rfl ?_
    refine ev_iadd rfl rfl ?_
    refine ev_aload_n rfl rfl rfl ?_
    refine ev_getR rfl rfl fl_X10_39 rfl rfl rfl rfl ?_
    refine ev_iload_n rfl rfl rfl ?_
    refine ev_iald rfl rfl rfl (vp_in_nI (by omega) (by decide)) (nI_clamp (by omega)) ?_
    try simp (disch := omega) only [ev_rd1, ev_rd2, ev_rd3, k_mk_ne]
    refine ev_iast (j := 42 * n + 18 + i) rfl rfl rfl rfl (by rw [show nI (42 * n) + 18 + nI i = nI (42 * n + 18 + i) from by rw [show nI (42 * n) + 18 = nI (42 * n + 18) from nI_add _ 18, nI_add]]; exact vp_in_nI (by omega) (by decide)) (by rw [show nI (42 * n) + 18 + nI i = nI (42 * n + 18 + i) from by rw [show nI (42 * n) + 18 = nI (42 * n + 18) from nI_add _ 18, nI_add]]; exact nI_clamp (by omega)) ?_
    refine ev_aload_n rfl rfl rfl ?_
    refine ev_getR rfl rfl fl_X10_45 rfl rfl rfl rfl ?_
    refine ev_iload_n rfl rfl rfl ?_
    refine ev_bipush (v := 30) rfl rfl (by decide) ?_
    refine ev_iadd rfl rfl ?_
    refine ev_iload_n rfl rfl rfl ?_
    refine ev_iadd rfl rfl ?_
    refine ev_aload_n rfl rfl rfl ?_
    refine ev_getR rfl rfl fl_X10_42 rfl rfl rfl rfl ?_
    refine ev_iload_n rfl rfl rfl ?_
    refine ev_zald rfl rfl rfl (vp_in_nI (by omega) (by decide)) (nI_clamp (by omega)) ?_
    try simp (disch := omega) only [ev_rd1, ev_rd2, ev_rd3, k_mk_ne]
    refine ev_if_eq rfl rfl (fun c_186 => ?_) (fun c_186 => ?_)
    · refine ev_iconst (v := 0) rfl rfl (by decide) ?_
      refine ev_iast (j := 42 * n + 30 + i) rfl rfl rfl rfl (by rw [show nI (42 * n) + 30 + nI i = nI (42 * n + 30 + i) from by rw [show nI (42 * n) + 30 = nI (42 * n + 30) from nI_add _ 30, nI_add]]; exact vp_in_nI (by omega) (by decide)) (by rw [show nI (42 * n) + 30 + nI i = nI (42 * n + 30 + i) from by rw [show nI (42 * n) + 30 = nI (42 * n + 30) from nI_add _ 30, nI_add]]; exact nI_clamp (by omega)) ?_
      refine ev_iinc (y := 1) rfl rfl rfl (by decide) rfl rfl ?_
      dsimp only [List.set]
      refine ev_goto rfl rfl ?_
      have z_ := ih (i + 1) (by omega)
      simp only [k_mk, z_01, if_neg c_133, if_pos c_186] at z_
      rw [nI_1 i]
      exact z_
    · refine ev_iconst (v := 1) rfl rfl (by decide) ?_
      refine ev_goto rfl rfl ?_
      refine ev_iast (j := 42 * n + 30 + i) rfl rfl rfl rfl (by rw [show nI (42 * n) + 30 + nI i = nI (42 * n + 30 + i) from by rw [show nI (42 * n) + 30 = nI (42 * n + 30) from nI_add _ 30, nI_add]]; exact vp_in_nI (by omega) (by decide)) (by rw [show nI (42 * n) + 30 + nI i = nI (42 * n + 30 + i) from by rw [show nI (42 * n) + 30 = nI (42 * n + 30) from nI_add _ 30, nI_add]]; exact nI_clamp (by omega)) ?_
      refine ev_iinc (y := 1) rfl rfl rfl (by decide) rfl rfl ?_
      dsimp only [List.set]
      refine ev_goto rfl rfl ?_
      have z_ := ih (i + 1) (by omega)
      simp only [k_mk, z_01, if_neg c_133, if_neg c_186] at z_
      rw [nI_1 i]
      exact z_

