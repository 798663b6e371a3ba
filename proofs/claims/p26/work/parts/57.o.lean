def RLr (st cr : Nat → Int32) (lk : Int32) : Prop := (∀ w, w < 12 → B (st w) (-100) 100 ∧ B (cr w) (-200) 200) ∧ B lk 0 4095
/-- stems, cracks, leaking keys in their bounds, now and in every kept row -/
def RLk (h : Hp) : Prop := RLr (h 9) (h 10) (h 4 6) ∧ ∀ i, i < 10 → RLr (fun w => h (13 + i) (6 + w)) (fun w => h (13 + i) (18 + w)) (h (13 + i) 5)
theorem RLk.cg {h h1 : Hp} (hL : RLk h) (e9 : ∀ j, h1 9 j = h 9 j) (e10 : ∀ j, h1 10 j = h 10 j) (e46 : h1 4 6 = h 4 6) (e13 : ∀ i, i < 10 → ∀ j, h1 (13 + i) j = h (13 + i) j) : RLk h1 := by
  obtain ⟨a, b⟩ := hL
  refine ⟨⟨fun w hw => by rw [e9, e10]; exact a.1 w hw, by rw [e46]; exact a.2⟩, fun i hi => ⟨fun w hw => ?_, by rw [e13 i hi]; exact (b i hi).2⟩⟩
  have z := (b i hi).1 w hw
  show B (h1 (13 + i) (6 + w)) (-100) 100 ∧ B (h1 (13 + i) (18 + w)) (-200) 200
  rw [e13 i hi, e13 i hi]
  exact z
theorem RLk.call {W : List (Nat × Nat)} {h h1 : Hp} (hL : RLk h) (hJ : JW W h h1) (v0 : wm W 4 6 = false) (v1 : ∀ j, wm W 9 j = false) (v2 : ∀ j, wm W 10 j = false) (v3 : ∀ j, wm W 13 j = false) (v4 : ∀ j, wm W 14 j = false) (v5 : ∀ j, wm W 15 j = false) (v6 : ∀ j, wm W 16 j = false) (v7 : ∀ j, wm W 17 j = false) (v8 : ∀ j, wm W 18 j = false) (v9 : ∀ j, wm W 19 j = false) (v10 : ∀ j, wm W 20 j = false) (v11 : ∀ j, wm W 21 j = false) (v12 : ∀ j, wm W 22 j = false) : RLk h1 := by
  refine RLk.cg hL (fun j => hJ.2 9 j (v1 j)) (fun j => hJ.2 10 j (v2 j)) (hJ.2 4 6 v0) (fun i hi j => ?_)
  rcases (show i = 0 ∨ i = 1 ∨ i = 2 ∨ i = 3 ∨ i = 4 ∨ i = 5 ∨ i = 6 ∨ i = 7 ∨ i = 8 ∨ i = 9 by omega) with rfl | rfl | rfl | rfl | rfl | rfl | rfl | rfl | rfl | rfl
  · exact hJ.2 13 j (v3 j)
  · exact hJ.2 14 j (v4 j)
  · exact hJ.2 15 j (v5 j)
  · exact hJ.2 16 j (v6 j)
  · exact hJ.2 17 j (v7 j)
  · exact hJ.2 18 j (v8 j)
  · exact hJ.2 19 j (v9 j)
  · exact hJ.2 20 j (v10 j)
  · exact hJ.2 21 j (v11 j)
  · exact hJ.2 22 j (v12 j)
theorem RLk.keep {h : Hp} (hL : RLk h) {n : Nat} (hn : n < 10) : RLk (k_keep h n) := by
  obtain ⟨a, b⟩ := hL
  have kc := kc_keep h hn
  have o : ∀ i j, i ≠ 11 → i < 13 → k_keep h n i j = h i j := fun i j h1 h2 => kk_ne hn h1 (Or.inl h2)
  refine ⟨⟨fun w hw => by rw [o 9 w (by decide) (by decide), o 10 w (by decide) (by decide)]; exact a.1 w hw, by rw [o 4 6 (by decide) (by decide)]; exact a.2⟩, fun i hi => ?_⟩
  by_cases e : i = n
  · subst e
    refine ⟨fun w hw => ?_, by rw [kc.2.2.2.1]; exact a.2⟩
    have z := kc.2.2.2.2.1 w hw
    show B (k_keep h i (13 + i) (6 + w)) (-100) 100 ∧ B (k_keep h i (13 + i) (18 + w)) (-200) 200
    rw [z.1, z.2]
    exact a.1 w hw
  · have z := kc.2.2.2.2.2 i hi e
    refine ⟨fun w hw => ?_, by rw [z]; exact (b i hi).2⟩
    have y := (b i hi).1 w hw
    show B (k_keep h n (13 + i) (6 + w)) (-100) 100 ∧ B (k_keep h n (13 + i) (18 + w)) (-200) 200
    rw [z, z]
    exact y
theorem RLk.o {h h1 : Hp} (hL : RLk h) (e : ∀ i j, 4 ≤ i → h1 i j = h i j) : RLk h1 := RLk.cg hL (fun j => e 9 j (by decide)) (fun j => e 10 j (by decide)) (e 4 6 (by decide)) (fun i hi j => e _ j (by omega))
theorem RLk.st {h : Hp} (hL : RLk h) (k : Nat) {v : Int32} (hv : B v (-100) 100) : RLk (ev_set h 9 k v) := by
  obtain ⟨a, b⟩ := hL
  refine ⟨⟨fun w hw => ⟨?_, by rw [ev_rd2 (by decide)]; exact (a.1 w hw).2⟩, by rw [ev_rd2 (by decide)]; exact a.2⟩, fun i hi => ⟨fun w hw => ?_, by rw [ev_rd2 (by omega)]; exact (b i hi).2⟩⟩
  · rw [ev_sj]
    split
    · exact hv
    · exact (a.1 w hw).1
  · have y := (b i hi).1 w hw
    show B (ev_set h 9 k v (13 + i) (6 + w)) (-100) 100 ∧ B (ev_set h 9 k v (13 + i) (18 + w)) (-200) 200
    rw [ev_rd2 (by omega), ev_rd2 (by omega)]
    exact y
theorem RLk.cr {h : Hp} (hL : RLk h) (k : Nat) {v : Int32} (hv : B v (-200) 200) : RLk (ev_set h 10 k v) := by
  obtain ⟨a, b⟩ := hL
  refine ⟨⟨fun w hw => ⟨by rw [ev_rd2 (by decide)]; exact (a.1 w hw).1, ?_⟩, by rw [ev_rd2 (by decide)]; exact a.2⟩, fun i hi => ⟨fun w hw => ?_, by rw [ev_rd2 (by omega)]; exact (b i hi).2⟩⟩
  · rw [ev_sj]
    split
    · exact hv
    · exact (a.1 w hw).2
  · have y := (b i hi).1 w hw
    show B (ev_set h 10 k v (13 + i) (6 + w)) (-100) 100 ∧ B (ev_set h 10 k v (13 + i) (18 + w)) (-200) 200
    rw [ev_rd2 (by omega), ev_rd2 (by omega)]
    exact y
theorem RLk.lk {h : Hp} (hL : RLk h) {v : Int32} (hv : B v 0 4095) : RLk (ev_set h 4 6 v) := by
  obtain ⟨a, b⟩ := hL
  refine ⟨⟨fun w hw => by rw [ev_rd2 (by decide), ev_rd2 (by decide)]; exact a.1 w hw, by rw [ev_rd1]; exact hv⟩, fun i hi => ⟨fun w hw => ?_, by rw [ev_rd2 (by omega)]; exact (b i hi).2⟩⟩
  have y := (b i hi).1 w hw
  show B (ev_set h 4 6 v (13 + i) (6 + w)) (-100) 100 ∧ B (ev_set h 4 6 v (13 + i) (18 + w)) (-200) 200
  rw [ev_rd2 (by omega), ev_rd2 (by omega)]
  exact y
theorem b12_iff (x : Int32) : B x 0 4095 ↔ x.toBitVec.toNat < 4096 := by
  constructor
  · intro h
    have p : B x 0 ((4095 : Nat) : Int) := h
    have e := (B.nI p).1
    have l := (B.nI p).2
    rw [e]
    show (BitVec.ofNat 32 x.toNatClampNeg).toNat < 4096
    rw [BitVec.toNat_ofNat]
    omega
  · intro h
    have e := w_of_nat x (by omega)
    exact ⟨by omega, by omega⟩
theorem lk_or {x : Int32} (h : B x 0 4095) {j : Nat} (hj : j < 12) : B (x ||| 1 <<< (nI j &&& 31)) 0 4095 := by
  rw [b12_iff] at h ⊢
  rw [Int32.toBitVec_or, BitVec.toNat_or]
  refine Nat.or_lt_two_pow (n := 12) h ?_
  rcases (show j = 0 ∨ j = 1 ∨ j = 2 ∨ j = 3 ∨ j = 4 ∨ j = 5 ∨ j = 6 ∨ j = 7 ∨ j = 8 ∨ j = 9 ∨ j = 10 ∨ j = 11 by omega) with rfl | rfl | rfl | rfl | rfl | rfl | rfl | rfl | rfl | rfl | rfl | rfl <;> decide
theorem lk_and {x : Int32} (h : B x 0 4095) (y : Int32) : B (x &&& y) 0 4095 := by
  rw [b12_iff] at h ⊢
  rw [Int32.toBitVec_and, BitVec.toNat_and]
  exact Nat.lt_of_le_of_lt Nat.and_le_left h
theorem rl_fire {h h1 : Hp} (hB : Bx h) (hL : RLk h) {v : Int32} (e : h1 = k_fire h (nX h) v) : RLk h1 := by
  rw [e]
  unfold k_fire
  split
  · exact hL
  · exact (hL.keep (nX_lt hB)).o (fun i j hi => ev_rd2 (by omega))
theorem rl_water {h h1 : Hp} (hB : Bx h) (hL : RLk h) {v : Int32} (e : h1 = k_water h (nX h) v) : RLk h1 := by
  rw [e]
  unfold k_water
  split
  · exact hL
  · exact (hL.keep (nX_lt hB)).o (fun i j hi => ev_rd2 (by omega))
theorem rl_valve {h h1 : Hp} (hB : Bx h) (hL : RLk h) {v : Int32} (e : h1 = k_valve h (nX h) v) : RLk h1 := by
  rw [e]
  unfold k_valve
  split
  · exact hL
  · exact (hL.keep (nX_lt hB)).o (fun i j hi => by rw [ev_rd2 (by omega), ev_rd2 (by omega)])
theorem rl_pressure {h h1 : Hp} (hB : Bx h) (hL : RLk h) {v : Int32} (e : h1 = k_press h (nX h) v) : RLk h1 := by
  rw [e]
  unfold k_press
  split
  · exact hL
  · exact (hL.keep (nX_lt hB)).o (fun i j hi => ev_rd2 (by omega))
theorem rl_beat {h h1 : Hp} (hB : Bx h) (hL : RLk h) {c : Int32} (e : h1 = k_beat h (nX h) (nW h) c) : RLk h1 := by
  rw [e]
  unfold k_beat
  repeat' split
  all_goals first | exact hL | exact (hL.keep (nX_lt hB)).o (fun i j hi => pass_o (Or.inl (by omega)))
theorem rl_stem {h h1 : Hp} (hB : Bx h) (hL : RLk h) {w v : Int32} (e : h1 = k_stem h (nX h) w v) : RLk h1 := by
  rw [e]
  unfold k_stem
  by_cases q0 : z_has w (h 4 7) = 0
  · rw [if_pos q0]; exact hL
  by_cases q1 : z_wi v (-100) 100 = 0
  · rw [if_neg q0, if_pos q1]; exact hL
  rw [if_neg q0, if_neg q1]
  split
  · exact (hL.keep (nX_lt hB)).st _ (z_wi_B (by decide : B (-100) (-100) (-100)) (by decide : B 100 100 100) q1)
  · exact hL
theorem rl_crack {h h1 : Hp} (hB : Bx h) (hL : RLk h) {w v : Int32} (e : h1 = k_crack h (nX h) w v) : RLk h1 := by
  rw [e]
  unfold k_crack
  by_cases q0 : z_has w (h 4 7) = 0
  · rw [if_pos q0]; exact hL
  by_cases q1 : z_wi v (-200) 200 = 0
  · rw [if_neg q0, if_pos q1]; exact hL
  rw [if_neg q0, if_neg q1]
  exact (hL.keep (nX_lt hB)).cr _ (z_wi_B (by decide : B (-200) (-200) (-200)) (by decide : B 200 200 200) q1)
theorem rl_leak {h h1 : Hp} (hB : Bx h) (hL : RLk h) {w q : Int32} (e : h1 = k_leak h (nX h) w q) : RLk h1 := by
  rw [e]
  unfold k_leak
  by_cases q0 : z_has w (h 4 7) = 0
  · rw [if_pos q0]; exact hL
  rw [if_neg q0]
  obtain ⟨j, hj, rfl⟩ := z_hask (B.nI (u := 12) (hB 4 7)).1 (B.nI (u := 12) (hB 4 7)).2 (by decide) q0
  have l12 := (B.nI (u := 12) (hB 4 7)).2
  split
  · exact (hL.keep (nX_lt hB)).lk (lk_and hL.1.2 _)
  · exact (hL.keep (nX_lt hB)).lk (lk_or hL.1.2 (by omega))
theorem near_B (h : Hp) (p : Int32) (w : Nat) (h9 : B (h 9 w) (-100) 100) : B (k_near1 h p w) (-100) 100 := by
  unfold k_near1
  split
  · have e1 : (100 : Int32).toInt = 100 := by decide
    have e2 : (-100 : Int32).toInt = -100 := by decide
    unfold z_max z_min
    generalize -(h 10 w + o_bent h w p) = y
    by_cases c : y < 100
    · have c1 := w_lt c
      rw [if_pos c]
      by_cases d : -100 < y
      · have d1 := w_lt d
        rw [if_pos d]; exact ⟨by omega, by omega⟩
      · rw [if_neg d]; decide
    · rw [if_neg c]
      decide
  · exact h9
theorem rl_tuneAll {h h1 : Hp} (hB : Bx h) (hL : RLk h) {p : Int32} (e : h1 = k_tuneAll h (nX h) (nW h) p) : RLk h1 := by
  rw [e]
  unfold k_tuneAll
  split
  · exact hL
  · obtain ⟨a, b⟩ := hL.keep (nX_lt hB)
    refine ⟨⟨fun w hw => ⟨?_, by rw [k_near_ne (by decide)]; exact (a.1 w hw).2⟩, by rw [k_near_ne (by decide)]; exact a.2⟩, fun i hi => ⟨fun w hw => ?_, by rw [k_near_ne (by omega)]; exact (b i hi).2⟩⟩
    · unfold k_near
      split
      · exact near_B _ p w (a.1 w hw).1
      · exact (a.1 w hw).1
    · have y := (b i hi).1 w hw
      show B (k_near (k_keep h (nX h)) p (nW h) (13 + i) (6 + w)) (-100) 100 ∧ B (k_near (k_keep h (nX h)) p (nW h) (13 + i) (18 + w)) (-200) 200
      rw [k_near_ne (by omega), k_near_ne (by omega)]
      exact y
theorem rl_play {h h1 : Hp} (hB : Bx h) (hL : RLk h) {t k : Int32} (e : h1 = k_play h (nX h) t k) : RLk h1 := by
  have l0 : RLk (k_try h t k) := hL.o (fun i j hi => k_try_ne (by omega))
  have l1 : RLk (z_cp (k_keep (k_try h t k) (nX h)) 2 3) := (l0.keep (nX_lt hB)).o (fun i j hi => if_neg (fun z => by omega))
  rw [e]
  unfold k_play
  repeat' split
  all_goals first | exact l1 | exact l0
theorem rl_undo {h h1 : Hp} (hL : RLk h) {n : Nat} (hn : n < 10) (e : h1 = k_rest h n) : RLk h1 := by
  rw [e]
  obtain ⟨a, b⟩ := hL
  have z := b n hn
  refine ⟨⟨fun w hw => by rw [rest_9 hw, rest_10 hw]; exact z.1 w hw, by rw [rest_46]; exact z.2⟩, fun i hi => ⟨fun w hw => ?_, by rw [rest_o (by omega) (by omega) (by omega) (by omega) (by omega)]; exact (b i hi).2⟩⟩
  have y := (b i hi).1 w hw
  show B (k_rest h n (13 + i) (6 + w)) (-100) 100 ∧ B (k_rest h n (13 + i) (18 + w)) (-200) 200
  rw [rest_o (by omega) (by omega) (by omega) (by omega) (by omega), rest_o (by omega) (by omega) (by omega) (by omega) (by omega)]
  exact y

