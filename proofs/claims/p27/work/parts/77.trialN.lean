theorem wm_hi {W : List (Nat × Nat)} (hW : W.all (fun q => Nat.blt 62 q.1) = true) {a j : Nat} (ha : a < 63) : wm W a j = false := by
  unfold wm
  rw [List.any_eq_false]
  intro q hq
  have z := List.all_eq_true.mp hW q hq
  have z2 : 62 < q.1 := Nat.le_of_ble_eq_true z
  have e : Nat.beq q.1 a = false := by
    cases y : Nat.beq q.1 a with
    | false => rfl
    | true => have := Nat.eq_of_beq_eq_true y; omega
  rw [e, Bool.false_and]
  exact Bool.false_ne_true
theorem wm_lo {W : List (Nat × Nat)} (hW : W.all (fun q => Nat.blt q.1 63) = true) {a j : Nat} (ha : 63 ≤ a) : wm W a j = false := by
  unfold wm
  rw [List.any_eq_false]
  intro q hq
  have z := List.all_eq_true.mp hW q hq
  have z2 : q.1 < 63 := Nat.le_of_ble_eq_true z
  have e : Nat.beq q.1 a = false := by
    cases y : Nat.beq q.1 a with
    | false => rfl
    | true => have := Nat.eq_of_beq_eq_true y; omega
  rw [e, Bool.false_and]
  exact Bool.false_ne_true
theorem bx_row13 {h : Hp} (hB : Bx h) {n : Nat} (hn : n < 10) (j : Nat) : B (if j < 6 then (if j = 5 then h 4 6 else h 2 j) else if j < 18 then h 9 (j - 6) else if j < 30 then h 10 (j - 18) else h (13 + n) j) (bx (13 + n) j).1 (bx (13 + n) j).2 := by
  by_cases q : j < 6
  · rw [if_pos q]
    rcases (show j = 0 ∨ j = 1 ∨ j = 2 ∨ j = 3 ∨ j = 4 ∨ j = 5 by omega) with rfl | rfl | rfl | rfl | rfl | rfl
    · rw [if_neg (by decide)]
      rcases (show n = 0 ∨ n = 1 ∨ n = 2 ∨ n = 3 ∨ n = 4 ∨ n = 5 ∨ n = 6 ∨ n = 7 ∨ n = 8 ∨ n = 9 by omega) with rfl | rfl | rfl | rfl | rfl | rfl | rfl | rfl | rfl | rfl <;> exact hB 2 0
    · rw [if_neg (by decide)]
      rcases (show n = 0 ∨ n = 1 ∨ n = 2 ∨ n = 3 ∨ n = 4 ∨ n = 5 ∨ n = 6 ∨ n = 7 ∨ n = 8 ∨ n = 9 by omega) with rfl | rfl | rfl | rfl | rfl | rfl | rfl | rfl | rfl | rfl <;> exact B.any _
    · rw [if_neg (by decide)]
      rcases (show n = 0 ∨ n = 1 ∨ n = 2 ∨ n = 3 ∨ n = 4 ∨ n = 5 ∨ n = 6 ∨ n = 7 ∨ n = 8 ∨ n = 9 by omega) with rfl | rfl | rfl | rfl | rfl | rfl | rfl | rfl | rfl | rfl <;> exact B.any _
    · rw [if_neg (by decide)]
      rcases (show n = 0 ∨ n = 1 ∨ n = 2 ∨ n = 3 ∨ n = 4 ∨ n = 5 ∨ n = 6 ∨ n = 7 ∨ n = 8 ∨ n = 9 by omega) with rfl | rfl | rfl | rfl | rfl | rfl | rfl | rfl | rfl | rfl <;> exact hB 2 3
    · rw [if_neg (by decide)]
      rcases (show n = 0 ∨ n = 1 ∨ n = 2 ∨ n = 3 ∨ n = 4 ∨ n = 5 ∨ n = 6 ∨ n = 7 ∨ n = 8 ∨ n = 9 by omega) with rfl | rfl | rfl | rfl | rfl | rfl | rfl | rfl | rfl | rfl <;> exact B.any _
    · rcases (show n = 0 ∨ n = 1 ∨ n = 2 ∨ n = 3 ∨ n = 4 ∨ n = 5 ∨ n = 6 ∨ n = 7 ∨ n = 8 ∨ n = 9 by omega) with rfl | rfl | rfl | rfl | rfl | rfl | rfl | rfl | rfl | rfl <;> exact B.any _
  · obtain ⟨k, rfl⟩ : ∃ k, j = k + 6 := ⟨j - 6, by omega⟩
    rcases (show n = 0 ∨ n = 1 ∨ n = 2 ∨ n = 3 ∨ n = 4 ∨ n = 5 ∨ n = 6 ∨ n = 7 ∨ n = 8 ∨ n = 9 by omega) with rfl | rfl | rfl | rfl | rfl | rfl | rfl | rfl | rfl | rfl <;> exact B.any _
theorem jw_keep {h : Hp} (hB : Bx h) {n : Nat} (hn : n < 10) : JW [(11, 1), (11, 2), (11, 3), (13, 999), (14, 999), (15, 999), (16, 999), (17, 999), (18, 999), (19, 999), (20, 999), (21, 999), (22, 999)] h (k_keep h n) := by
  have kc := kc_keep h hn
  refine ⟨fun i j => ?_, fun i j q => ?_⟩
  · by_cases e : i = 13 + n
    · subst e
      have z := bx_row13 hB hn j
      unfold k_keep
      rw [if_pos rfl]
      exact z
    · by_cases e2 : i = 11
      · subst e2
        by_cases j1 : j = 1
        · subst j1
          rw [kc.1]
          exact (nI_B (by omega) (by omega) : B (nI ((n + 1) % 10)) 0 9)
        · by_cases j0 : j = 0
          · subst j0
            unfold k_keep
            rw [if_neg e, if_pos rfl, if_neg (by decide), if_neg (by decide), if_neg (by decide)]
            exact hB 11 0
          · obtain ⟨k, rfl⟩ : ∃ k, j = k + 2 := ⟨j - 2, by omega⟩
            exact B.any _
      · rw [k_keep_ne e e2]
        exact hB i j
  · by_cases e : i = 13 + n
    · subst e
      rcases (show n = 0 ∨ n = 1 ∨ n = 2 ∨ n = 3 ∨ n = 4 ∨ n = 5 ∨ n = 6 ∨ n = 7 ∨ n = 8 ∨ n = 9 by omega) with rfl | rfl | rfl | rfl | rfl | rfl | rfl | rfl | rfl | rfl <;> cases q
    · by_cases e2 : i = 11
      · subst e2
        have j1 : j ≠ 1 := fun z => by subst z; cases q
        have j2 : j ≠ 2 := fun z => by subst z; cases q
        have j3 : j ≠ 3 := fun z => by subst z; cases q
        unfold k_keep
        rw [if_neg e, if_pos rfl, if_neg j1, if_neg j2, if_neg j3]
      · exact k_keep_ne e e2
theorem bx_71 (j : Nat) : bx 71 j = bk (j % 42) := rfl
theorem bk_else {f : Nat} (h0 : f ≠ 0) (h3 : f ≠ 3) (h5 : f ≠ 5) : bk f = (-2147483648, 2147483647) := by
  unfold bk
  split
  · exact absurd rfl h0
  · exact absurd rfl h3
  · exact absurd rfl h5
  · rfl
theorem jw_mkp {h : Hp} (hB : Bx h) : JW [(63, 13), (71, 999)] h (k_mkp h) := by
  obtain ⟨m1, m2, m3, m4, m5⟩ := km_keep hB
  generalize hr : (if nA_ h = 10 then 9 else nA_ h) = r at *
  have lr : r ≤ 9 := by rcases m5 with z | z <;> omega
  refine ⟨fun i j => ?_, fun i j q => ?_⟩
  · by_cases e : i = 71
    · subst e
      rw [bx_71]
      by_cases c1 : j < 42 * r
      · rcases m5 with z | z
        · rw [z.2.2 j (by omega)]; exact hB 71 j
        · rw [z.2.2 j (by omega)]
          have y := hB 71 (j + 42)
          rw [bx_71, Nat.add_mod_right] at y
          exact y
      · by_cases c2 : j < 42 * r + 42
        · obtain ⟨f, hf, rfl⟩ : ∃ f, f < 42 ∧ j = 42 * r + f := ⟨j - 42 * r, by omega, by omega⟩
          rw [show (42 * r + f) % 42 = f by omega]
          by_cases f0 : f = 0
          · subst f0; rw [m1 0 (by decide)]; exact hB 63 0
          · by_cases f3 : f = 3
            · subst f3; rw [m1 3 (by decide)]; exact hB 63 3
            · by_cases f5 : f = 5
              · subst f5; rw [m2]; exact hB 63 5
              · rw [bk_else f0 f3 f5]; exact B.any _
        · have y : k_mkp h 71 j = h 71 j := by
            unfold k_mkp
            split
            · rename_i q10
              have ra : r = 9 := by
                rcases m5 with z | z
                · exfalso
                  have p10 : B (h 63 13) 0 10 := hB 63 13
                  have ea : nA_ h = 10 := by unfold nA_; rw [q10]; rfl
                  omega
                · exact z.2.1
              rw [k_mkeep_71, k_mk_out (by omega) 12 (by decide), ev_rd2 (by decide), k_msh_ge (by omega)]
            · rename_i q10
              have ra : r = nA_ h := by
                rcases m5 with z | z
                · exact z.2.1
                · exfalso
                  have p10 : B (h 63 13) 0 10 := hB 63 13
                  exact q10 ((B.nI (u := 10) p10).1.trans (by show nI (nA_ h) = 10; rw [z.1]; rfl))
              rw [k_mkeep_71, k_mk_out (by unfold nA_ at ra; omega) 12 (by decide)]
          rw [y]; exact hB 71 j
    · by_cases e2 : i = 63
      · subst e2
        by_cases j13 : j = 13
        · subst j13
          rw [m4]
          exact (nI_B (by omega) (by omega) : B (nI (r + 1)) 0 10)
        · rw [k_mkp_63 j13]; exact hB 63 j
      · rw [k_mkp_o e e2]; exact hB i j
  · by_cases e : i = 71
    · subst e; cases q
    · by_cases e2 : i = 63
      · subst e2
        exact k_mkp_63 (fun z => by subst z; cases q)
      · exact k_mkp_o e e2
theorem KMk.cg {h h1 z h2 : Hp} {a r : Nat} (km : KMk h1 z a r) (e : ∀ i j, 63 ≤ i → h1 i j = h i j) (e71 : ∀ j, h2 71 j = z 71 j) (e13 : h2 63 13 = z 63 13) : KMk h h2 a r := by
  obtain ⟨m1, m2, m3, m4, m5⟩ := km
  refine ⟨fun f hf => by rw [e71, m1 f hf, e 63 f (by decide)], by rw [e71, m2, e 63 5 (by decide)], fun w hw => ?_, by rw [e13]; exact m4, ?_⟩
  · have y := m3 w hw
    rw [e71, e71, e71, y.1, y.2.1, y.2.2, e 68 w (by decide), e 69 w (by decide), e 70 w (by decide)]
    exact ⟨rfl, rfl, rfl⟩
  · rcases m5 with ⟨y1, y2, y3⟩ | ⟨y1, y2, y3⟩
    · exact Or.inl ⟨y1, y2, fun j hj => by rw [e71, y3 j hj, e 71 j (by decide)]⟩
    · exact Or.inr ⟨y1, y2, fun j hj => by rw [e71, y3 j hj, e 71 _ (by decide)]⟩
/-- an act on both sides -/
theorem act_re {h h1 h2 : Hp} (hB : Bx h) (hB1 : Bx h1) (hE : RE h) (kc : ∀ j, h1 11 j = k_keep h (nX h) 11 j) (kr : ∀ i, i < 10 → ∀ j, h1 (13 + i) j = k_keep h (nX h) (13 + i) j) (c63 : ∀ i j, 63 ≤ i → h1 i j = h i j) (f11 : ∀ j, h2 11 j = h1 11 j) (f13 : ∀ i, i < 10 → ∀ j, h2 (13 + i) j = h1 (13 + i) j) (m71 : ∀ j, h2 71 j = k_mkp h1 71 j) (m13 : h2 63 13 = k_mkp h1 63 13) (ew : nW h2 = nW h) (hb : RBo h2) (hw : RWs h2) : RE h2 := by
  have ln : nX h < 10 := by have := (B.nI (u := 9) (hB 11 1)).2; unfold nX; omega
  have e13 : nA_ h1 = nA_ h := by unfold nA_; rw [c63 63 13 (by decide)]
  have kc2 : KC h h2 (nX h) := KC.cg ln (KC.cg ln (kc_keep h ln) kc kr) f11 f13
  have km := km_keep hB1
  rw [e13] at km
  have km2 := KMk.cg km c63 m71 m13
  obtain ⟨z1, z2, z3⟩ := rel_acts hB hE kc2 km2 ew
  refine ⟨hb, hw, z1, fun _ => ?_⟩
  rw [z2, Nat.add_sub_cancel, z3, ← ew]
  exact hw.2.2
