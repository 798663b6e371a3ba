theorem ev_rd1 (h : Hp) (a k : Nat) (x : Int32) : ev_set h a k x a k = x := if_pos ⟨rfl, rfl⟩
theorem ev_rd2 {h : Hp} {a k i j : Nat} {x : Int32} (hne : i ≠ a) : ev_set h a k x i j = h i j := if_neg (fun q => hne q.1)
theorem ev_rd3 {h : Hp} {a k i j : Nat} {x : Int32} (hne : j ≠ k) : ev_set h a k x i j = h i j := if_neg (fun q => hne q.2)
theorem ev_rc1 {h : Hp} {x y s d n i j : Nat} (hne : i ≠ y) : ev_cpy h x y s d n i j = h i j := if_neg hne
theorem ev_sw (x : Int32) (lw hi : Int) : (x.toInt < lw ∨ hi < x.toInt) ∨ (¬ x.toInt < lw ∧ ¬ hi < x.toInt) := by omega
theorem g_pos (a n : Nat) (h : Nat.blt 0 a = true) : Nat.blt 0 (a + n) = true := Nat.ble_eq_true_of_le (Nat.le_trans (Nat.le_of_ble_eq_true h) (Nat.le_add_right a n))
def z_has (w n : Int32) : Int32 := if w < 0 then 0 else if n ≤ w then 0 else 1
theorem z_has_b (w n : Int32) : narrow .boolean (.int (z_has w n)) = .int (z_has w n) := by
  unfold z_has
  split
  · rfl
  · split <;> rfl
theorem EvQ.drop {mi : MI} {pc : Nat} {lo : List (Option Value)} {st : List Value} {G : Geo} {h : Hp} {kc ks : Nat} {Q : Pst} (n : Nat) (k : EvQ mi pc (lo.set n none) st G h kc ks Q) : EvQ mi pc lo st G h kc ks Q := by
  intro p l e R s m args below meth c b base ls H locs cells slots Qf C hL hS hB hcc hss hret
  refine k p l e R s m args below meth c b base ls H locs cells slots Qf C ?_ hS hB hcc hss hret
  obtain ⟨l0, h1, h2⟩ := hL
  refine ⟨l0, h1, fun i v hi => h2 i v ?_⟩
  by_cases e : i = n
  · subst e
    have hl : i < lo.length := by
      have := (List.getElem?_eq_some_iff.mp hi).1
      simpa using this
    rw [List.getElem?_set_self hl] at hi
    cases hi
  · rw [List.getElem?_set_ne (Ne.symm e)] at hi
    exact hi

theorem g_tun (L : Nat) (b : Bool) {n : Nat} (hn : n < 6) : ev_gr (G0 L b) 29 n = some (30 + n) ∧ ev_sh (G0 L b) (30 + n) = some (.inr (.int, 24)) := by
  rcases (show n = 0 ∨ n = 1 ∨ n = 2 ∨ n = 3 ∨ n = 4 ∨ n = 5 by omega) with rfl | rfl | rfl | rfl | rfl | rfl <;> exact ⟨rfl, rfl⟩
set_option maxRecDepth 100000 in
set_option maxHeartbeats 4000000 in
theorem c_isKey (G : Geo) (h : Hp) (v : Int32) : EvD mi_X9_isKey [.int v] G h (z_wi v (-11) 11) (h) := by
  refine EvD.of (lo := [some (.int v)]) pf_X9_isKey ok_X9_isKey rfl rfl ?_
  refine ev_iload_n rfl rfl rfl ?_
  refine ev_bipush (v := (-11)) rfl rfl (by decide) ?_
  refine ev_bipush (v := 11) rfl rfl (by decide) ?_
  refine ev_S3D rfl rfl lk_X9_75 st_X9_isWithin rfl rfl (c_isWithin _ _ _ _ _) ?_
  exact ev_iret rfl rfl (z_wi_b _ _ _) (⟨rfl, rfl, rfl⟩)

/-- what keep() leaves: the row n of the ring, the ring's numbers -/
def k_keep (h : Hp) (n : Nat) : Hp := fun i j =>
  if i = 13 + n then (if j < 6 then (if j = 5 then h 4 6 else h 2 j) else if j < 18 then h 9 (j - 6) else if j < 30 then h 10 (j - 18) else h i j)
  else if i = 11 then (if j = 1 then (nI n + 1) - (nI n + 1) / 10 * 10 else if j = 2 then z_min 10 (h 11 2 + 1) else if j = 3 then h 11 3 + 1 else h 11 j)
  else h i j
theorem k_keep_ne {h : Hp} {n i j : Nat} (h1 : i ≠ 13 + n) (h2 : i ≠ 11) : k_keep h n i j = h i j := by
  unfold k_keep
  rw [if_neg h1, if_neg h2]

