def h_00 (xs : Nat → Int32) : Hp := fun i j => if i = 0 then xs j else 0
def hf (xs : Nat → Int32) : Hp := h_Model (h_X (h_00 xs))
def BxE (h : Hp) : Prop := ∀ a k, ¬ (a = 63 ∧ k = 51) → B (h a k) (bx a k).1 (bx a k).2
theorem BxE.set {h : Hp} {a k : Nat} {x : Int32} (f : BxE h) (hb : B x (bx a k).1 (bx a k).2) : BxE (ev_set h a k x) := fun i j hij => by
  unfold ev_set
  split
  · rename_i q; rw [q.1, q.2]; exact hb
  · exact f i j hij
def bz (q : Nat × Nat × Int × Int) : Bool := (decide (q.2.2.1 ≤ 0) && decide (0 ≤ q.2.2.2)) || (Nat.beq q.1 63 && Nat.beq q.2.1 51)
theorem bf_zero : ∀ (l : List (Nat × Nat × Int × Int)), l.all bz = true → ∀ a k, ¬ (a = 63 ∧ k = 51) → (bf l a k).1 ≤ 0 ∧ 0 ≤ (bf l a k).2
  | [], _, a, k, _ => by unfold bf; decide
  | q :: r, h, a, k, hn => by
    rw [List.all_cons, Bool.and_eq_true] at h
    have ih := bf_zero r h.2 a k hn
    unfold bf
    have hq := h.1
    unfold bz at hq
    rw [Bool.or_eq_true, Bool.and_eq_true, Bool.and_eq_true, decide_eq_true_eq, decide_eq_true_eq] at hq
    cases e1 : Nat.beq q.1 a with
    | false => exact ih
    | true =>
      have f1 := Nat.eq_of_beq_eq_true e1
      cases e2 : Nat.beq q.2.1 999 with
      | true =>
        rcases hq with z | z
        · exact z
        · have := Nat.eq_of_beq_eq_true z.2
          rw [this] at e2
          cases e2
      | false =>
        cases e3 : Nat.beq q.2.1 k with
        | false => exact ih
        | true =>
          have f3 := Nat.eq_of_beq_eq_true e3
          rcases hq with z | z
          · exact z
          · exfalso
            exact hn ⟨by rw [← f1]; exact Nat.eq_of_beq_eq_true z.1, by rw [← f3]; exact Nat.eq_of_beq_eq_true z.2⟩
theorem bt_zero : bt.all bz = true := by decide
theorem bk_zero (r : Nat) : (bk r).1 ≤ 0 ∧ 0 ≤ (bk r).2 := by
  unfold bk
  split <;> decide
theorem bm_zero (k : Nat) : 0 ≤ bm k := by
  unfold bm
  repeat' split
  all_goals decide
theorem bx_zero (a k : Nat) (hn : ¬ (a = 63 ∧ k = 51)) : (bx a k).1 ≤ 0 ∧ 0 ≤ (bx a k).2 := by
  unfold bx
  cases e1 : Nat.beq a 71 with
  | true => exact bk_zero _
  | false =>
    cases e2 : Nat.beq a 78 with
    | true =>
      exact ⟨Int.le_refl 0, by show (0 : Int) ≤ 192 * ((24 - k / 1809 : Nat) : Int); omega⟩
    | false =>
      cases e3 : Nat.beq a 83 with
      | true => exact ⟨Int.le_refl 0, bm_zero k⟩
      | false => exact bf_zero bt bt_zero a k hn
theorem bx00 (xs : Nat → Int32) : BxE (h_00 xs) := fun a k hn => by
  unfold h_00
  split
  · rename_i q
    subst q
    exact B.any _
  · have e0 : (0 : Int32).toInt = 0 := by decide
    have z := bx_zero a k hn
    exact ⟨by rw [e0]; exact z.1, by rw [e0]; exact z.2⟩
theorem bxf (xs : Nat → Int32) : Bx (hf xs) := by
  have f : BxE (hf xs) := by
    unfold hf h_Model h_X h_Sheets h_River h_Suspects h_Setting h_Tunes h_Reader h_Acts h_Whistles h_boil
    repeat (refine BxE.set ?_ (by decide))
    exact bx00 xs
  intro a k
  by_cases q : a = 63 ∧ k = 51
  · obtain ⟨rfl, rfl⟩ := q
    have e : hf xs 63 51 = 10 := rfl
    rw [e]
    decide
  · exact f a k q
theorem ksf (xs : Nat → Int32) : KS (hf xs) := fun a ha => by
  have e : ∀ j, hf xs 71 j = 0 := fun j => by
    unfold hf h_Model h_X h_Sheets h_River h_Suspects h_Setting h_Tunes h_Reader h_Acts h_Whistles h_boil
    repeat rw [ev_rd2 (by decide)]
    rfl
  unfold KSr
  rw [e, e]
  exact Int.le_refl _
theorem ftf (xs : Nat → Int32) : FT (hf xs) := ⟨fun j => by
    unfold hf h_Model h_X h_Sheets h_River h_Suspects h_Setting h_Tunes h_Reader h_Acts h_Whistles h_boil
    repeat rw [ev_rd2 (by decide)]
    rfl, rfl⟩
theorem invf (xs : Nat → Int32) (hR : Rel (hf xs)) : INV (hf xs) := ⟨bxf xs, by show (100 : Int32).toInt ≤ (150 : Int32).toInt; decide, ksf xs, hR⟩
theorem hz_X (xs : Nat → Int32) : ev_Z 63 (h_X (h_00 xs)) := by
  intro i j hi
  unfold h_X h_Sheets h_River h_Suspects h_Setting h_Tunes h_Reader h_Acts h_Whistles h_boil h_00
  simp only [ev_set]
  repeat rw [if_neg (by omega)]
theorem hz_00 (xs : Nat → Int32) : ev_Z 1 (h_00 xs) := fun i j hi => if_neg (by omega)

set_option maxRecDepth 100000 in
set_option maxHeartbeats 4000000 in
theorem w_all (xs : Nat → Int32) (L : Nat) (hL : L ≤ 4096) : EvQ mi_L_law 0 [some (.ref 0), none, none, none] [] [(.inr (.int, L), [])] (h_00 xs) 95 146866 QL := by
  refine ev_new (kc := 94) (ks := 146856) rfl rfl cl_L_7 rfl rfl (fun j => rfl) ?_
  refine EvQ.geo (gb_1 L) rfl ?_
  refine ev_dup rfl rfl rfl ?_
  refine ev_I0 (kc := 33) (ks := 145363) rfl rfl lk_L_9 in_X9_init rfl rfl (c_X_init L _ (hz_00 xs)) ?_
  rintro G' h' ⟨-, rfl, rfl⟩
  refine ev_astore_n rfl rfl rfl rfl ?_
  dsimp only [List.set]
  refine ev_new (kc := 32) (ks := 145308) rfl rfl cl_L_10 rfl rfl (fun j => ev_Z.at (hz_X xs) 63 j rfl) ?_
  refine EvQ.geo (gm_0 L) rfl ?_
  refine ev_dup rfl rfl rfl ?_
  refine ev_I0 (kc := 1) (ks := 45225) rfl rfl lk_L_12 in_X10_init rfl rfl (c_Model_init L _ (hz_X xs)) ?_
  rintro G' h' ⟨-, rfl, rfl⟩
  refine EvQ.geo (G0 L false) rfl ?_
  refine ev_astore_n rfl rfl rfl rfl ?_
  dsimp only [List.set]
  refine ev_iconst (v := 0) rfl rfl (by decide) ?_
  refine ev_istore_n rfl rfl rfl rfl ?_
  dsimp only [List.set]
  exact w_loopF L hL (L + 1) 0 (hf xs) (by decide) (invf xs ⟨rfl, fun j hj => absurd hj (Nat.not_lt_zero _), rfl, fun t ht => absurd ht (Nat.not_lt_zero _)⟩) (ftf xs) (by rw [show (0 : Int32).toInt = 0 from by decide]; omega)

