theorem try_cg {h X : Hp} (e : ∀ i j, i ≠ 3 → X i j = h i j) (t k : Int32) : r_try X t k = r_try h t k := by
  have f : ∀ i, i ≠ 3 → X i = h i := fun i hi => funext (fun j => e i j hi)
  have e1 : ∀ n m, n < 6 → s_or X (30 + n) m = s_or h (30 + n) m := fun n m hn => by
    induction m with
    | zero => rfl
    | succ m ih => unfold s_or; rw [ih, f (30 + n) (by omega)]
  by_cases c0 : z_has t (h 28 2) = 0
  · unfold r_try
    rw [f 28 (by decide), if_pos c0, if_pos c0]
  · by_cases c1 : z_wi k (-11) 11 = 0
    · unfold r_try
      rw [f 28 (by decide), if_neg c0, if_neg c0, if_pos c1, if_pos c1]
    · have g1 : gsC X t k = gsC h t k := by
        have es : ∀ c m, c ≠ 3 → s_or X c m = s_or h c m := fun c m hc => by
          induction m with
          | zero => rfl
          | succ m ih => unfold s_or; rw [ih, f c hc]
        unfold gsC
        rw [es _ _ (by omega), f 36 (by decide), f 4 (by decide)]
      have g2 : yCr X t k = yCr h t k := by
        have ew : nW X = nW h := by unfold nW; rw [f 4 (by decide)]
        unfold yCr yC
        rw [ew, f 36 (by decide), f 2 (by decide)]
        refine y_run_cg _ _ _ _ (fun j _ _ => ⟨?_, fun p => ?_⟩)
        · unfold dC
          rw [f _ (by omega), f 4 (by decide)]
          exact s_drawn_cg (fun k => e 6 k (by decide)) _ _ _
        · unfold sC
          rw [f _ (by omega)]
          exact s_stray_cg (fun k => e 7 k (by decide)) (fun k => e 9 k (by decide)) (fun k => e 10 k (by decide)) _ _ _
      unfold r_try
      rw [f 28 (by decide), g1, g2]
/-- a key tried by the class -/
def ky1 (k r b l : Int32) : Int32 × Int32 := if r < 0 then (b, l) else if b = -104 then (k, r) else if r < l then (k, r) else if r = l then (if z_abs b ≤ z_abs k then (b, l) else (k, r)) else (b, l)
def kk_ (i : Nat) : Int32 := nI i + (-11)
def kyS (R : Int32 → Int32) : Nat → Int32 × Int32 × Int32
  | 0 => (0, -104, -104)
  | i + 1 => (if R (kk_ i) = -2 then (kyS R i).1 + 0 else (kyS R i).1 + 1, ky1 (kk_ i) (R (kk_ i)) (kyS R i).2.1 (kyS R i).2.2)
def kyA (s : Int32 × Int32 × Int32) (q : Int32) : Int32 := if q = 2 then s.1 else if q = 0 then s.2.1 else s.2.2
theorem kk_le {i : Nat} (hi : i < 23) : ¬ 11 < kk_ i := by
  unfold kk_
  have e1 := nI_toInt (show i < 2 ^ 31 by omega)
  have e2 : (-11 : Int32).toInt = -11 := by decide
  have e3 : (11 : Int32).toInt = 11 := by decide
  intro z
  have y := w_lt z
  rw [w_add (by omega) (by omega)] at y
  omega
theorem kk_1 (i : Nat) : kk_ i + 1 = kk_ (i + 1) := by
  unfold kk_
  rw [Int32.add_assoc, Int32.add_comm (-11) 1, ← Int32.add_assoc, nI_1]

set_option maxRecDepth 100000 in
set_option maxHeartbeats 4000000 in
theorem wm3 {i j : Nat} (hi : i ≠ 3) : wm [(3, 0), (3, 1), (3, 2), (3, 3), (3, 4)] i j = false := by
  unfold wm
  rw [List.any_eq_false]
  intro q hq
  have z : q.1 = 3 := by
    simp only [List.mem_cons, List.not_mem_nil, or_false] at hq
    rcases hq with rfl | rfl | rfl | rfl | rfl <;> rfl
  have e : Nat.beq q.1 i = false := by
    cases y : Nat.beq q.1 i with
    | false => rfl
    | true => have := Nat.eq_of_beq_eq_true y; omega
  rw [e, Bool.false_and]
  exact Bool.false_ne_true
set_option maxRecDepth 100000 in
set_option maxHeartbeats 4000000 in
theorem l_key (L : Nat) (b : Bool) (h : Hp) (t q : Int32) : ∀ (u i : Nat) (X : Hp), i + u = 23 → JW [(3, 0), (3, 1), (3, 2), (3, 3), (3, 4)] h X → EvQ mi_X9_key 37 [some (.ref 1), some (.int t), some (.int q), some (.int (kyS (r_try h t) i).1), some (.int (kyS (r_try h t) i).2.1), some (.int (kyS (r_try h t) i).2.2), some (.int (kk_ i)), none, none, none] [] (G0 L b) X 0 0 (QI (fun r _ => r = kyA (kyS (r_try h t) 23) q) [(3, 0), (3, 1), (3, 2), (3, 3), (3, 4)] (G0 L b) h) := by
  intro u
  induction u with
  | zero =>
    intro i X hi hX
    have hi2 : i = 23 := by omega
    subst hi2
    refine ev_iload rfl rfl rfl ?_
    refine ev_bipush (v := 11) rfl rfl (by decide) ?_
    refine ev_icmp_gt rfl rfl (fun c_41 => ?_) (fun z_ => absurd (show (11 : Int32) < kk_ 23 by decide) z_)
    refine ev_iload_n rfl rfl rfl ?_
    refine ev_iconst (v := 2) rfl rfl (by decide) ?_
    refine ev_icmp_ne rfl rfl (fun c_147 => ?_) (fun c_147 => ?_)
    · refine ev_iload_n rfl rfl rfl ?_
      refine ev_if_ne rfl rfl (fun c_153 => ?_) (fun c_153 => ?_)
      · refine ev_iload rfl rfl rfl ?_
        exact ev_iret rfl rfl rfl (⟨⟨_, rfl, by simp only [kyA, if_pos c_41, if_neg c_147, if_neg c_153]⟩, rfl, hX⟩)
      · refine ev_iload rfl rfl rfl ?_
        refine ev_goto rfl rfl ?_
        exact ev_iret rfl rfl rfl (⟨⟨_, rfl, by simp only [kyA, if_pos c_41, if_neg c_147, if_pos c_153]⟩, rfl, hX⟩)
    · refine ev_iload_n rfl rfl rfl ?_
      exact ev_iret rfl rfl rfl (⟨⟨_, rfl, by simp only [kyA, if_pos c_41, if_pos c_147]⟩, rfl, hX⟩)
  | succ u ih =>
    intro i X hi hX
    refine ev_iload rfl rfl rfl ?_
    refine ev_bipush (v := 11) rfl rfl (by decide) ?_
    refine ev_icmp_gt rfl rfl (fun z_ => absurd z_ (kk_le (by omega))) (fun c_41 => ?_)
    refine ev_aload_n rfl rfl rfl ?_
    refine ev_iload_n rfl rfl rfl ?_
    refine ev_iload rfl rfl rfl ?_
    refine ev_V2D rfl rfl lk_X9_217 vt_X9_tryOut rfl rfl rfl rfl rfl (EvD.to (x_try L b X hX.1 t (kk_ i)) (try_cg (fun i j hi => hX.2 i j (wm3 hi)) t (kk_ i)) rfl) ?_
    have kx := jw_try hX.1 t (kk_ i)
    refine ev_istore rfl rfl rfl rfl ?_
    dsimp only [List.set]
    refine ev_iload_n rfl rfl rfl ?_
    refine ev_iload rfl rfl rfl ?_
    refine ev_bipush (v := (-2)) rfl rfl (by decide) ?_
    refine ev_icmp_ne rfl rfl (fun c_58 => ?_) (fun c_58 => ?_)
    · refine ev_iconst (v := 1) rfl rfl (by decide) ?_
      refine ev_iadd rfl rfl ?_
      refine ev_istore_n rfl rfl rfl rfl ?_
      dsimp only [List.set]
      refine ev_iload rfl rfl rfl ?_
      refine ev_bipush (v := (-104)) rfl rfl (by decide) ?_
      refine ev_icmp_ne rfl rfl (fun c_72 => ?_) (fun c_72 => ?_)
      · refine ev_iconst (v := 0) rfl rfl (by decide) ?_
        refine ev_istore rfl rfl rfl rfl ?_
        dsimp only [List.set]
        refine ev_iload rfl rfl rfl ?_
        refine ev_iload rfl rfl rfl ?_
        refine ev_icmp_ne rfl rfl (fun c_86 => ?_) (fun c_86 => ?_)
        · refine ev_iconst (v := 0) rfl rfl (by decide) ?_
          refine ev_istore rfl rfl rfl rfl ?_
          dsimp only [List.set]
          refine ev_iload rfl rfl rfl ?_
          refine ev_if_lt rfl rfl (fun c_111 => ?_) (fun c_111 => ?_)
          · refine ev_iinc (y := 1) rfl rfl rfl (by decide) rfl rfl ?_
            dsimp only [List.set]
            refine ev_goto rfl rfl ?_
            have e1_ : (if r_try h t (kk_ i) = -2 then (kyS (r_try h t) i).1 + 0 else (kyS (r_try h t) i).1 + 1) = _ := if_neg c_58
            have e2_ : ky1 (kk_ i) (r_try h t (kk_ i)) (kyS (r_try h t) i).2.1 (kyS (r_try h t) i).2.2 = ((kyS (r_try h t) i).2.1, (kyS (r_try h t) i).2.2) := by
              unfold ky1
              rw [if_pos c_111]
            have z_ := ih (i + 1) _ (by omega) (hX.call kx rfl)
            rw [show kyS (r_try h t) (i + 1) = (_, _) from rfl] at z_
            dsimp only at z_
            rw [e1_, e2_] at z_
            rw [kk_1]
            exact EvQ.drop 9 (EvQ.drop 8 (EvQ.drop 7 z_))
          · refine ev_iload rfl rfl rfl ?_
            refine ev_if_ne rfl rfl (fun z_ => absurd (by decide) z_) (fun c_116 => ?_)
            refine ev_iload rfl rfl rfl ?_
            refine ev_iload rfl rfl rfl ?_
            refine ev_icmp_lt rfl rfl (fun c_123 => ?_) (fun c_123 => ?_)
            · refine ev_iload rfl rfl rfl ?_
              refine ev_istore rfl rfl rfl rfl ?_
              dsimp only [List.set]
              refine ev_iload rfl rfl rfl ?_
              refine ev_istore rfl rfl rfl rfl ?_
              dsimp only [List.set]
              refine ev_iinc (y := 1) rfl rfl rfl (by decide) rfl rfl ?_
              dsimp only [List.set]
              refine ev_goto rfl rfl ?_
              have e1_ : (if r_try h t (kk_ i) = -2 then (kyS (r_try h t) i).1 + 0 else (kyS (r_try h t) i).1 + 1) = _ := if_neg c_58
              have e2_ : ky1 (kk_ i) (r_try h t (kk_ i)) (kyS (r_try h t) i).2.1 (kyS (r_try h t) i).2.2 = (kk_ i, r_try h t (kk_ i)) := by
                unfold ky1
                rw [if_neg c_111, if_neg c_72, if_pos c_123]
              have z_ := ih (i + 1) _ (by omega) (hX.call kx rfl)
              rw [show kyS (r_try h t) (i + 1) = (_, _) from rfl] at z_
              dsimp only at z_
              rw [e1_, e2_] at z_
              rw [kk_1]
              exact EvQ.drop 9 (EvQ.drop 8 (EvQ.drop 7 z_))
            · refine ev_iload rfl rfl rfl ?_
              refine ev_if_eq rfl rfl (fun c_128 => ?_) (fun z_ => absurd (by decide) z_)
              refine ev_iinc (y := 1) rfl rfl rfl (by decide) rfl rfl ?_
              dsimp only [List.set]
              refine ev_goto rfl rfl ?_
              have e1_ : (if r_try h t (kk_ i) = -2 then (kyS (r_try h t) i).1 + 0 else (kyS (r_try h t) i).1 + 1) = _ := if_neg c_58
              have e2_ : ky1 (kk_ i) (r_try h t (kk_ i)) (kyS (r_try h t) i).2.1 (kyS (r_try h t) i).2.2 = ((kyS (r_try h t) i).2.1, (kyS (r_try h t) i).2.2) := by
                unfold ky1
                rw [if_neg c_111, if_neg c_72, if_neg c_123, if_neg c_86]
              have z_ := ih (i + 1) _ (by omega) (hX.call kx rfl)
              rw [show kyS (r_try h t) (i + 1) = (_, _) from rfl] at z_
              dsimp only at z_
              rw [e1_, e2_] at z_
              rw [kk_1]
              exact EvQ.drop 9 (EvQ.drop 8 (EvQ.drop 7 z_))
        · refine ev_iload rfl rfl rfl ?_
          refine ev_S1D rfl rfl lk_X9_224 st_J9_abs_0f7a4 rfl rfl (c_abs _ _ _) ?_
          refine ev_iload rfl rfl rfl ?_
          refine ev_S1D rfl rfl lk_X9_224 st_J9_abs_0f7a4 rfl rfl (c_abs _ _ _) ?_
          refine ev_icmp_ge rfl rfl (fun c_99 => ?_) (fun c_99 => ?_)
          · refine ev_iconst (v := 0) rfl rfl (by decide) ?_
            refine ev_istore rfl rfl rfl rfl ?_
            dsimp only [List.set]
            refine ev_iload rfl rfl rfl ?_
            refine ev_if_lt rfl rfl (fun c_111 => ?_) (fun c_111 => ?_)
            · refine ev_iinc (y := 1) rfl rfl rfl (by decide) rfl rfl ?_
              dsimp only [List.set]
              refine ev_goto rfl rfl ?_
              have e1_ : (if r_try h t (kk_ i) = -2 then (kyS (r_try h t) i).1 + 0 else (kyS (r_try h t) i).1 + 1) = _ := if_neg c_58
              have e2_ : ky1 (kk_ i) (r_try h t (kk_ i)) (kyS (r_try h t) i).2.1 (kyS (r_try h t) i).2.2 = ((kyS (r_try h t) i).2.1, (kyS (r_try h t) i).2.2) := by
                unfold ky1
                rw [if_pos c_111]
              have z_ := ih (i + 1) _ (by omega) (hX.call kx rfl)
              rw [show kyS (r_try h t) (i + 1) = (_, _) from rfl] at z_
              dsimp only at z_
              rw [e1_, e2_] at z_
              rw [kk_1]
              exact EvQ.drop 9 (EvQ.drop 8 (EvQ.drop 7 z_))
            · refine ev_iload rfl rfl rfl ?_
              refine ev_if_ne rfl rfl (fun z_ => absurd (by decide) z_) (fun c_116 => ?_)
              refine ev_iload rfl rfl rfl ?_
              refine ev_iload rfl rfl rfl ?_
              refine ev_icmp_lt rfl rfl (fun c_123 => ?_) (fun c_123 => ?_)
              · refine ev_iload rfl rfl rfl ?_
                refine ev_istore rfl rfl rfl rfl ?_
                dsimp only [List.set]
                refine ev_iload rfl rfl rfl ?_
                refine ev_istore rfl rfl rfl rfl ?_
                dsimp only [List.set]
                refine ev_iinc (y := 1) rfl rfl rfl (by decide) rfl rfl ?_
                dsimp only [List.set]
                refine ev_goto rfl rfl ?_
                have e1_ : (if r_try h t (kk_ i) = -2 then (kyS (r_try h t) i).1 + 0 else (kyS (r_try h t) i).1 + 1) = _ := if_neg c_58
                have e2_ : ky1 (kk_ i) (r_try h t (kk_ i)) (kyS (r_try h t) i).2.1 (kyS (r_try h t) i).2.2 = (kk_ i, r_try h t (kk_ i)) := by
                  unfold ky1
                  rw [if_neg c_111, if_neg c_72, if_pos c_123]
                have z_ := ih (i + 1) _ (by omega) (hX.call kx rfl)
                rw [show kyS (r_try h t) (i + 1) = (_, _) from rfl] at z_
                dsimp only at z_
                rw [e1_, e2_] at z_
                rw [kk_1]
                exact EvQ.drop 9 (EvQ.drop 8 (EvQ.drop 7 z_))
              · refine ev_iload rfl rfl rfl ?_
                refine ev_if_eq rfl rfl (fun c_128 => ?_) (fun z_ => absurd (by decide) z_)
                refine ev_iinc (y := 1) rfl rfl rfl (by decide) rfl rfl ?_
                dsimp only [List.set]
                refine ev_goto rfl rfl ?_
                have e1_ : (if r_try h t (kk_ i) = -2 then (kyS (r_try h t) i).1 + 0 else (kyS (r_try h t) i).1 + 1) = _ := if_neg c_58
                have e2_ : ky1 (kk_ i) (r_try h t (kk_ i)) (kyS (r_try h t) i).2.1 (kyS (r_try h t) i).2.2 = ((kyS (r_try h t) i).2.1, (kyS (r_try h t) i).2.2) := by
                  unfold ky1
                  rw [if_neg c_111, if_neg c_72, if_neg c_123, if_pos c_86, if_pos c_99]
                have z_ := ih (i + 1) _ (by omega) (hX.call kx rfl)
                rw [show kyS (r_try h t) (i + 1) = (_, _) from rfl] at z_
                dsimp only at z_
                rw [e1_, e2_] at z_
                rw [kk_1]
                exact EvQ.drop 9 (EvQ.drop 8 (EvQ.drop 7 z_))
          · refine ev_iconst (v := 1) rfl rfl (by decide) ?_
            refine ev_goto rfl rfl ?_
            refine ev_istore rfl rfl rfl rfl ?_
            dsimp only [List.set]
            refine ev_iload rfl rfl rfl ?_
            refine ev_if_lt rfl rfl (fun c_111 => ?_) (fun c_111 => ?_)
            · refine ev_iinc (y := 1) rfl rfl rfl (by decide) rfl rfl ?_
              dsimp only [List.set]
              refine ev_goto rfl rfl ?_
              have e1_ : (if r_try h t (kk_ i) = -2 then (kyS (r_try h t) i).1 + 0 else (kyS (r_try h t) i).1 + 1) = _ := if_neg c_58
              have e2_ : ky1 (kk_ i) (r_try h t (kk_ i)) (kyS (r_try h t) i).2.1 (kyS (r_try h t) i).2.2 = ((kyS (r_try h t) i).2.1, (kyS (r_try h t) i).2.2) := by
                unfold ky1
                rw [if_pos c_111]
              have z_ := ih (i + 1) _ (by omega) (hX.call kx rfl)
              rw [show kyS (r_try h t) (i + 1) = (_, _) from rfl] at z_
              dsimp only at z_
              rw [e1_, e2_] at z_
              rw [kk_1]
              exact EvQ.drop 9 (EvQ.drop 8 (EvQ.drop 7 z_))
            · refine ev_iload rfl rfl rfl ?_
              refine ev_if_ne rfl rfl (fun z_ => absurd (by decide) z_) (fun c_116 => ?_)
              refine ev_iload rfl rfl rfl ?_
              refine ev_iload rfl rfl rfl ?_
              refine ev_icmp_lt rfl rfl (fun c_123 => ?_) (fun c_123 => ?_)
              · refine ev_iload rfl rfl rfl ?_
                refine ev_istore rfl rfl rfl rfl ?_
                dsimp only [List.set]
                refine ev_iload rfl rfl rfl ?_
                refine ev_istore rfl rfl rfl rfl ?_
                dsimp only [List.set]
                refine ev_iinc (y := 1) rfl rfl rfl (by decide) rfl rfl ?_
                dsimp only [List.set]
                refine ev_goto rfl rfl ?_
                have e1_ : (if r_try h t (kk_ i) = -2 then (kyS (r_try h t) i).1 + 0 else (kyS (r_try h t) i).1 + 1) = _ := if_neg c_58
                have e2_ : ky1 (kk_ i) (r_try h t (kk_ i)) (kyS (r_try h t) i).2.1 (kyS (r_try h t) i).2.2 = (kk_ i, r_try h t (kk_ i)) := by
                  unfold ky1
                  rw [if_neg c_111, if_neg c_72, if_pos c_123]
                have z_ := ih (i + 1) _ (by omega) (hX.call kx rfl)
                rw [show kyS (r_try h t) (i + 1) = (_, _) from rfl] at z_
                dsimp only at z_
                rw [e1_, e2_] at z_
                rw [kk_1]
                exact EvQ.drop 9 (EvQ.drop 8 (EvQ.drop 7 z_))
              · refine ev_iload rfl rfl rfl ?_
                refine ev_if_eq rfl rfl (fun z_ => absurd z_ (by decide)) (fun c_128 => ?_)
                refine ev_iload rfl rfl rfl ?_
                refine ev_istore rfl rfl rfl rfl ?_
                dsimp only [List.set]
                refine ev_iload rfl rfl rfl ?_
                refine ev_istore rfl rfl rfl rfl ?_
                dsimp only [List.set]
                refine ev_iinc (y := 1) rfl rfl rfl (by decide) rfl rfl ?_
                dsimp only [List.set]
                refine ev_goto rfl rfl ?_
                have e1_ : (if r_try h t (kk_ i) = -2 then (kyS (r_try h t) i).1 + 0 else (kyS (r_try h t) i).1 + 1) = _ := if_neg c_58
                have e2_ : ky1 (kk_ i) (r_try h t (kk_ i)) (kyS (r_try h t) i).2.1 (kyS (r_try h t) i).2.2 = (kk_ i, r_try h t (kk_ i)) := by
                  unfold ky1
                  rw [if_neg c_111, if_neg c_72, if_neg c_123, if_pos c_86, if_neg c_99]
                have z_ := ih (i + 1) _ (by omega) (hX.call kx rfl)
                rw [show kyS (r_try h t) (i + 1) = (_, _) from rfl] at z_
                dsimp only at z_
                rw [e1_, e2_] at z_
                rw [kk_1]
                exact EvQ.drop 9 (EvQ.drop 8 (EvQ.drop 7 z_))
      · refine ev_iconst (v := 1) rfl rfl (by decide) ?_
        refine ev_goto rfl rfl ?_
        refine ev_istore rfl rfl rfl rfl ?_
        dsimp only [List.set]
        refine ev_iload rfl rfl rfl ?_
        refine ev_iload rfl rfl rfl ?_
        refine ev_icmp_ne rfl rfl (fun c_86 => ?_) (fun c_86 => ?_)
        · refine ev_iconst (v := 0) rfl rfl (by decide) ?_
          refine ev_istore rfl rfl rfl rfl ?_
          dsimp only [List.set]
          refine ev_iload rfl rfl rfl ?_
          refine ev_if_lt rfl rfl (fun c_111 => ?_) (fun c_111 => ?_)
          · refine ev_iinc (y := 1) rfl rfl rfl (by decide) rfl rfl ?_
            dsimp only [List.set]
            refine ev_goto rfl rfl ?_
            have e1_ : (if r_try h t (kk_ i) = -2 then (kyS (r_try h t) i).1 + 0 else (kyS (r_try h t) i).1 + 1) = _ := if_neg c_58
            have e2_ : ky1 (kk_ i) (r_try h t (kk_ i)) (kyS (r_try h t) i).2.1 (kyS (r_try h t) i).2.2 = ((kyS (r_try h t) i).2.1, (kyS (r_try h t) i).2.2) := by
              unfold ky1
              rw [if_pos c_111]
            have z_ := ih (i + 1) _ (by omega) (hX.call kx rfl)
            rw [show kyS (r_try h t) (i + 1) = (_, _) from rfl] at z_
            dsimp only at z_
            rw [e1_, e2_] at z_
            rw [kk_1]
            exact EvQ.drop 9 (EvQ.drop 8 (EvQ.drop 7 z_))
          · refine ev_iload rfl rfl rfl ?_
            refine ev_if_ne rfl rfl (fun c_116 => ?_) (fun z_ => absurd z_ (by decide))
            refine ev_iload rfl rfl rfl ?_
            refine ev_istore rfl rfl rfl rfl ?_
            dsimp only [List.set]
            refine ev_iload rfl rfl rfl ?_
            refine ev_istore rfl rfl rfl rfl ?_
            dsimp only [List.set]
            refine ev_iinc (y := 1) rfl rfl rfl (by decide) rfl rfl ?_
            dsimp only [List.set]
            refine ev_goto rfl rfl ?_
            have e1_ : (if r_try h t (kk_ i) = -2 then (kyS (r_try h t) i).1 + 0 else (kyS (r_try h t) i).1 + 1) = _ := if_neg c_58
            have e2_ : ky1 (kk_ i) (r_try h t (kk_ i)) (kyS (r_try h t) i).2.1 (kyS (r_try h t) i).2.2 = (kk_ i, r_try h t (kk_ i)) := by
              unfold ky1
              rw [if_neg c_111, if_pos c_72]
            have z_ := ih (i + 1) _ (by omega) (hX.call kx rfl)
            rw [show kyS (r_try h t) (i + 1) = (_, _) from rfl] at z_
            dsimp only at z_
            rw [e1_, e2_] at z_
            rw [kk_1]
            exact EvQ.drop 9 (EvQ.drop 8 (EvQ.drop 7 z_))
        · refine ev_iload rfl rfl rfl ?_
          refine ev_S1D rfl rfl lk_X9_224 st_J9_abs_0f7a4 rfl rfl (c_abs _ _ _) ?_
          refine ev_iload rfl rfl rfl ?_
          refine ev_S1D rfl rfl lk_X9_224 st_J9_abs_0f7a4 rfl rfl (c_abs _ _ _) ?_
          refine ev_icmp_ge rfl rfl (fun c_99 => ?_) (fun c_99 => ?_)
          · refine ev_iconst (v := 0) rfl rfl (by decide) ?_
            refine ev_istore rfl rfl rfl rfl ?_
            dsimp only [List.set]
            refine ev_iload rfl rfl rfl ?_
            refine ev_if_lt rfl rfl (fun c_111 => ?_) (fun c_111 => ?_)
            · refine ev_iinc (y := 1) rfl rfl rfl (by decide) rfl rfl ?_
              dsimp only [List.set]
              refine ev_goto rfl rfl ?_
              have e1_ : (if r_try h t (kk_ i) = -2 then (kyS (r_try h t) i).1 + 0 else (kyS (r_try h t) i).1 + 1) = _ := if_neg c_58
              have e2_ : ky1 (kk_ i) (r_try h t (kk_ i)) (kyS (r_try h t) i).2.1 (kyS (r_try h t) i).2.2 = ((kyS (r_try h t) i).2.1, (kyS (r_try h t) i).2.2) := by
                unfold ky1
                rw [if_pos c_111]
              have z_ := ih (i + 1) _ (by omega) (hX.call kx rfl)
              rw [show kyS (r_try h t) (i + 1) = (_, _) from rfl] at z_
              dsimp only at z_
              rw [e1_, e2_] at z_
              rw [kk_1]
              exact EvQ.drop 9 (EvQ.drop 8 (EvQ.drop 7 z_))
            · refine ev_iload rfl rfl rfl ?_
              refine ev_if_ne rfl rfl (fun c_116 => ?_) (fun z_ => absurd z_ (by decide))
              refine ev_iload rfl rfl rfl ?_
              refine ev_istore rfl rfl rfl rfl ?_
              dsimp only [List.set]
              refine ev_iload rfl rfl rfl ?_
              refine ev_istore rfl rfl rfl rfl ?_
              dsimp only [List.set]
              refine ev_iinc (y := 1) rfl rfl rfl (by decide) rfl rfl ?_
              dsimp only [List.set]
              refine ev_goto rfl rfl ?_
              have e1_ : (if r_try h t (kk_ i) = -2 then (kyS (r_try h t) i).1 + 0 else (kyS (r_try h t) i).1 + 1) = _ := if_neg c_58
              have e2_ : ky1 (kk_ i) (r_try h t (kk_ i)) (kyS (r_try h t) i).2.1 (kyS (r_try h t) i).2.2 = (kk_ i, r_try h t (kk_ i)) := by
                unfold ky1
                rw [if_neg c_111, if_pos c_72]
              have z_ := ih (i + 1) _ (by omega) (hX.call kx rfl)
              rw [show kyS (r_try h t) (i + 1) = (_, _) from rfl] at z_
              dsimp only at z_
              rw [e1_, e2_] at z_
              rw [kk_1]
              exact EvQ.drop 9 (EvQ.drop 8 (EvQ.drop 7 z_))
          · refine ev_iconst (v := 1) rfl rfl (by decide) ?_
            refine ev_goto rfl rfl ?_
            refine ev_istore rfl rfl rfl rfl ?_
            dsimp only [List.set]
            refine ev_iload rfl rfl rfl ?_
            refine ev_if_lt rfl rfl (fun c_111 => ?_) (fun c_111 => ?_)
            · refine ev_iinc (y := 1) rfl rfl rfl (by decide) rfl rfl ?_
              dsimp only [List.set]
              refine ev_goto rfl rfl ?_
              have e1_ : (if r_try h t (kk_ i) = -2 then (kyS (r_try h t) i).1 + 0 else (kyS (r_try h t) i).1 + 1) = _ := if_neg c_58
              have e2_ : ky1 (kk_ i) (r_try h t (kk_ i)) (kyS (r_try h t) i).2.1 (kyS (r_try h t) i).2.2 = ((kyS (r_try h t) i).2.1, (kyS (r_try h t) i).2.2) := by
                unfold ky1
                rw [if_pos c_111]
              have z_ := ih (i + 1) _ (by omega) (hX.call kx rfl)
              rw [show kyS (r_try h t) (i + 1) = (_, _) from rfl] at z_
              dsimp only at z_
              rw [e1_, e2_] at z_
              rw [kk_1]
              exact EvQ.drop 9 (EvQ.drop 8 (EvQ.drop 7 z_))
            · refine ev_iload rfl rfl rfl ?_
              refine ev_if_ne rfl rfl (fun c_116 => ?_) (fun z_ => absurd z_ (by decide))
              refine ev_iload rfl rfl rfl ?_
              refine ev_istore rfl rfl rfl rfl ?_
              dsimp only [List.set]
              refine ev_iload rfl rfl rfl ?_
              refine ev_istore rfl rfl rfl rfl ?_
              dsimp only [List.set]
              refine ev_iinc (y := 1) rfl rfl rfl (by decide) rfl rfl ?_
              dsimp only [List.set]
              refine ev_goto rfl rfl ?_
              have e1_ : (if r_try h t (kk_ i) = -2 then (kyS (r_try h t) i).1 + 0 else (kyS (r_try h t) i).1 + 1) = _ := if_neg c_58
              have e2_ : ky1 (kk_ i) (r_try h t (kk_ i)) (kyS (r_try h t) i).2.1 (kyS (r_try h t) i).2.2 = (kk_ i, r_try h t (kk_ i)) := by
                unfold ky1
                rw [if_neg c_111, if_pos c_72]
              have z_ := ih (i + 1) _ (by omega) (hX.call kx rfl)
              rw [show kyS (r_try h t) (i + 1) = (_, _) from rfl] at z_
              dsimp only at z_
              rw [e1_, e2_] at z_
              rw [kk_1]
              exact EvQ.drop 9 (EvQ.drop 8 (EvQ.drop 7 z_))
    · refine ev_iconst (v := 0) rfl rfl (by decide) ?_
      refine ev_goto rfl rfl ?_
      refine ev_iadd rfl rfl ?_
      refine ev_istore_n rfl rfl rfl rfl ?_
      dsimp only [List.set]
      refine ev_iload rfl rfl rfl ?_
      refine ev_bipush (v := (-104)) rfl rfl (by decide) ?_
      refine ev_icmp_ne rfl rfl (fun c_72 => ?_) (fun c_72 => ?_)
      · refine ev_iconst (v := 0) rfl rfl (by decide) ?_
        refine ev_istore rfl rfl rfl rfl ?_
        dsimp only [List.set]
        refine ev_iload rfl rfl rfl ?_
        refine ev_iload rfl rfl rfl ?_
        refine ev_icmp_ne rfl rfl (fun c_86 => ?_) (fun c_86 => ?_)
        · refine ev_iconst (v := 0) rfl rfl (by decide) ?_
          refine ev_istore rfl rfl rfl rfl ?_
          dsimp only [List.set]
          refine ev_iload rfl rfl rfl ?_
          refine ev_if_lt rfl rfl (fun c_111 => ?_) (fun c_111 => ?_)
          · refine ev_iinc (y := 1) rfl rfl rfl (by decide) rfl rfl ?_
            dsimp only [List.set]
            refine ev_goto rfl rfl ?_
            have e1_ : (if r_try h t (kk_ i) = -2 then (kyS (r_try h t) i).1 + 0 else (kyS (r_try h t) i).1 + 1) = _ := if_pos c_58
            have e2_ : ky1 (kk_ i) (r_try h t (kk_ i)) (kyS (r_try h t) i).2.1 (kyS (r_try h t) i).2.2 = ((kyS (r_try h t) i).2.1, (kyS (r_try h t) i).2.2) := by
              unfold ky1
              rw [if_pos c_111]
            have z_ := ih (i + 1) _ (by omega) (hX.call kx rfl)
            rw [show kyS (r_try h t) (i + 1) = (_, _) from rfl] at z_
            dsimp only at z_
            rw [e1_, e2_] at z_
            rw [kk_1]
            exact EvQ.drop 9 (EvQ.drop 8 (EvQ.drop 7 z_))
          · refine ev_iload rfl rfl rfl ?_
            refine ev_if_ne rfl rfl (fun z_ => absurd (by decide) z_) (fun c_116 => ?_)
            refine ev_iload rfl rfl rfl ?_
            refine ev_iload rfl rfl rfl ?_
            refine ev_icmp_lt rfl rfl (fun c_123 => ?_) (fun c_123 => ?_)
            · refine ev_iload rfl rfl rfl ?_
              refine ev_istore rfl rfl rfl rfl ?_
              dsimp only [List.set]
              refine ev_iload rfl rfl rfl ?_
              refine ev_istore rfl rfl rfl rfl ?_
              dsimp only [List.set]
              refine ev_iinc (y := 1) rfl rfl rfl (by decide) rfl rfl ?_
              dsimp only [List.set]
              refine ev_goto rfl rfl ?_
              have e1_ : (if r_try h t (kk_ i) = -2 then (kyS (r_try h t) i).1 + 0 else (kyS (r_try h t) i).1 + 1) = _ := if_pos c_58
              have e2_ : ky1 (kk_ i) (r_try h t (kk_ i)) (kyS (r_try h t) i).2.1 (kyS (r_try h t) i).2.2 = (kk_ i, r_try h t (kk_ i)) := by
                unfold ky1
                rw [if_neg c_111, if_neg c_72, if_pos c_123]
              have z_ := ih (i + 1) _ (by omega) (hX.call kx rfl)
              rw [show kyS (r_try h t) (i + 1) = (_, _) from rfl] at z_
              dsimp only at z_
              rw [e1_, e2_] at z_
              rw [kk_1]
              exact EvQ.drop 9 (EvQ.drop 8 (EvQ.drop 7 z_))
            · refine ev_iload rfl rfl rfl ?_
              refine ev_if_eq rfl rfl (fun c_128 => ?_) (fun z_ => absurd (by decide) z_)
              refine ev_iinc (y := 1) rfl rfl rfl (by decide) rfl rfl ?_
              dsimp only [List.set]
              refine ev_goto rfl rfl ?_
              have e1_ : (if r_try h t (kk_ i) = -2 then (kyS (r_try h t) i).1 + 0 else (kyS (r_try h t) i).1 + 1) = _ := if_pos c_58
              have e2_ : ky1 (kk_ i) (r_try h t (kk_ i)) (kyS (r_try h t) i).2.1 (kyS (r_try h t) i).2.2 = ((kyS (r_try h t) i).2.1, (kyS (r_try h t) i).2.2) := by
                unfold ky1
                rw [if_neg c_111, if_neg c_72, if_neg c_123, if_neg c_86]
              have z_ := ih (i + 1) _ (by omega) (hX.call kx rfl)
              rw [show kyS (r_try h t) (i + 1) = (_, _) from rfl] at z_
              dsimp only at z_
              rw [e1_, e2_] at z_
              rw [kk_1]
              exact EvQ.drop 9 (EvQ.drop 8 (EvQ.drop 7 z_))
        · refine ev_iload rfl rfl rfl ?_
          refine ev_S1D rfl rfl lk_X9_224 st_J9_abs_0f7a4 rfl rfl (c_abs _ _ _) ?_
          refine ev_iload rfl rfl rfl ?_
          refine ev_S1D rfl rfl lk_X9_224 st_J9_abs_0f7a4 rfl rfl (c_abs _ _ _) ?_
          refine ev_icmp_ge rfl rfl (fun c_99 => ?_) (fun c_99 => ?_)
          · refine ev_iconst (v := 0) rfl rfl (by decide) ?_
            refine ev_istore rfl rfl rfl rfl ?_
            dsimp only [List.set]
            refine ev_iload rfl rfl rfl ?_
            refine ev_if_lt rfl rfl (fun c_111 => ?_) (fun c_111 => ?_)
            · refine ev_iinc (y := 1) rfl rfl rfl (by decide) rfl rfl ?_
              dsimp only [List.set]
              refine ev_goto rfl rfl ?_
              have e1_ : (if r_try h t (kk_ i) = -2 then (kyS (r_try h t) i).1 + 0 else (kyS (r_try h t) i).1 + 1) = _ := if_pos c_58
              have e2_ : ky1 (kk_ i) (r_try h t (kk_ i)) (kyS (r_try h t) i).2.1 (kyS (r_try h t) i).2.2 = ((kyS (r_try h t) i).2.1, (kyS (r_try h t) i).2.2) := by
                unfold ky1
                rw [if_pos c_111]
              have z_ := ih (i + 1) _ (by omega) (hX.call kx rfl)
              rw [show kyS (r_try h t) (i + 1) = (_, _) from rfl] at z_
              dsimp only at z_
              rw [e1_, e2_] at z_
              rw [kk_1]
              exact EvQ.drop 9 (EvQ.drop 8 (EvQ.drop 7 z_))
            · refine ev_iload rfl rfl rfl ?_
              refine ev_if_ne rfl rfl (fun z_ => absurd (by decide) z_) (fun c_116 => ?_)
              refine ev_iload rfl rfl rfl ?_
              refine ev_iload rfl rfl rfl ?_
              refine ev_icmp_lt rfl rfl (fun c_123 => ?_) (fun c_123 => ?_)
              · refine ev_iload rfl rfl rfl ?_
                refine ev_istore rfl rfl rfl rfl ?_
                dsimp only [List.set]
                refine ev_iload rfl rfl rfl ?_
                refine ev_istore rfl rfl rfl rfl ?_
                dsimp only [List.set]
                refine ev_iinc (y := 1) rfl rfl rfl (by decide) rfl rfl ?_
                dsimp only [List.set]
                refine ev_goto rfl rfl ?_
                have e1_ : (if r_try h t (kk_ i) = -2 then (kyS (r_try h t) i).1 + 0 else (kyS (r_try h t) i).1 + 1) = _ := if_pos c_58
                have e2_ : ky1 (kk_ i) (r_try h t (kk_ i)) (kyS (r_try h t) i).2.1 (kyS (r_try h t) i).2.2 = (kk_ i, r_try h t (kk_ i)) := by
                  unfold ky1
                  rw [if_neg c_111, if_neg c_72, if_pos c_123]
                have z_ := ih (i + 1) _ (by omega) (hX.call kx rfl)
                rw [show kyS (r_try h t) (i + 1) = (_, _) from rfl] at z_
                dsimp only at z_
                rw [e1_, e2_] at z_
                rw [kk_1]
                exact EvQ.drop 9 (EvQ.drop 8 (EvQ.drop 7 z_))
              · refine ev_iload rfl rfl rfl ?_
                refine ev_if_eq rfl rfl (fun c_128 => ?_) (fun z_ => absurd (by decide) z_)
                refine ev_iinc (y := 1) rfl rfl rfl (by decide) rfl rfl ?_
                dsimp only [List.set]
                refine ev_goto rfl rfl ?_
                have e1_ : (if r_try h t (kk_ i) = -2 then (kyS (r_try h t) i).1 + 0 else (kyS (r_try h t) i).1 + 1) = _ := if_pos c_58
                have e2_ : ky1 (kk_ i) (r_try h t (kk_ i)) (kyS (r_try h t) i).2.1 (kyS (r_try h t) i).2.2 = ((kyS (r_try h t) i).2.1, (kyS (r_try h t) i).2.2) := by
                  unfold ky1
                  rw [if_neg c_111, if_neg c_72, if_neg c_123, if_pos c_86, if_pos c_99]
                have z_ := ih (i + 1) _ (by omega) (hX.call kx rfl)
                rw [show kyS (r_try h t) (i + 1) = (_, _) from rfl] at z_
                dsimp only at z_
                rw [e1_, e2_] at z_
                rw [kk_1]
                exact EvQ.drop 9 (EvQ.drop 8 (EvQ.drop 7 z_))
          · refine ev_iconst (v := 1) rfl rfl (by decide) ?_
            refine ev_goto rfl rfl ?_
            refine ev_istore rfl rfl rfl rfl ?_
            dsimp only [List.set]
            refine ev_iload rfl rfl rfl ?_
            refine ev_if_lt rfl rfl (fun c_111 => ?_) (fun c_111 => ?_)
            · refine ev_iinc (y := 1) rfl rfl rfl (by decide) rfl rfl ?_
              dsimp only [List.set]
              refine ev_goto rfl rfl ?_
              have e1_ : (if r_try h t (kk_ i) = -2 then (kyS (r_try h t) i).1 + 0 else (kyS (r_try h t) i).1 + 1) = _ := if_pos c_58
              have e2_ : ky1 (kk_ i) (r_try h t (kk_ i)) (kyS (r_try h t) i).2.1 (kyS (r_try h t) i).2.2 = ((kyS (r_try h t) i).2.1, (kyS (r_try h t) i).2.2) := by
                unfold ky1
                rw [if_pos c_111]
              have z_ := ih (i + 1) _ (by omega) (hX.call kx rfl)
              rw [show kyS (r_try h t) (i + 1) = (_, _) from rfl] at z_
              dsimp only at z_
              rw [e1_, e2_] at z_
              rw [kk_1]
              exact EvQ.drop 9 (EvQ.drop 8 (EvQ.drop 7 z_))
            · refine ev_iload rfl rfl rfl ?_
              refine ev_if_ne rfl rfl (fun z_ => absurd (by decide) z_) (fun c_116 => ?_)
              refine ev_iload rfl rfl rfl ?_
              refine ev_iload rfl rfl rfl ?_
              refine ev_icmp_lt rfl rfl (fun c_123 => ?_) (fun c_123 => ?_)
              · refine ev_iload rfl rfl rfl ?_
                refine ev_istore rfl rfl rfl rfl ?_
                dsimp only [List.set]
                refine ev_iload rfl rfl rfl ?_
                refine ev_istore rfl rfl rfl rfl ?_
                dsimp only [List.set]
                refine ev_iinc (y := 1) rfl rfl rfl (by decide) rfl rfl ?_
                dsimp only [List.set]
                refine ev_goto rfl rfl ?_
                have e1_ : (if r_try h t (kk_ i) = -2 then (kyS (r_try h t) i).1 + 0 else (kyS (r_try h t) i).1 + 1) = _ := if_pos c_58
                have e2_ : ky1 (kk_ i) (r_try h t (kk_ i)) (kyS (r_try h t) i).2.1 (kyS (r_try h t) i).2.2 = (kk_ i, r_try h t (kk_ i)) := by
                  unfold ky1
                  rw [if_neg c_111, if_neg c_72, if_pos c_123]
                have z_ := ih (i + 1) _ (by omega) (hX.call kx rfl)
                rw [show kyS (r_try h t) (i + 1) = (_, _) from rfl] at z_
                dsimp only at z_
                rw [e1_, e2_] at z_
                rw [kk_1]
                exact EvQ.drop 9 (EvQ.drop 8 (EvQ.drop 7 z_))
              · refine ev_iload rfl rfl rfl ?_
                refine ev_if_eq rfl rfl (fun z_ => absurd z_ (by decide)) (fun c_128 => ?_)
                refine ev_iload rfl rfl rfl ?_
                refine ev_istore rfl rfl rfl rfl ?_
                dsimp only [List.set]
                refine ev_iload rfl rfl rfl ?_
                refine ev_istore rfl rfl rfl rfl ?_
                dsimp only [List.set]
                refine ev_iinc (y := 1) rfl rfl rfl (by decide) rfl rfl ?_
                dsimp only [List.set]
                refine ev_goto rfl rfl ?_
                have e1_ : (if r_try h t (kk_ i) = -2 then (kyS (r_try h t) i).1 + 0 else (kyS (r_try h t) i).1 + 1) = _ := if_pos c_58
                have e2_ : ky1 (kk_ i) (r_try h t (kk_ i)) (kyS (r_try h t) i).2.1 (kyS (r_try h t) i).2.2 = (kk_ i, r_try h t (kk_ i)) := by
                  unfold ky1
                  rw [if_neg c_111, if_neg c_72, if_neg c_123, if_pos c_86, if_neg c_99]
                have z_ := ih (i + 1) _ (by omega) (hX.call kx rfl)
                rw [show kyS (r_try h t) (i + 1) = (_, _) from rfl] at z_
                dsimp only at z_
                rw [e1_, e2_] at z_
                rw [kk_1]
                exact EvQ.drop 9 (EvQ.drop 8 (EvQ.drop 7 z_))
      · refine ev_iconst (v := 1) rfl rfl (by decide) ?_
        refine ev_goto rfl rfl ?_
        refine ev_istore rfl rfl rfl rfl ?_
        dsimp only [List.set]
        refine ev_iload rfl rfl rfl ?_
        refine ev_iload rfl rfl rfl ?_
        refine ev_icmp_ne rfl rfl (fun c_86 => ?_) (fun c_86 => ?_)
        · refine ev_iconst (v := 0) rfl rfl (by decide) ?_
          refine ev_istore rfl rfl rfl rfl ?_
          dsimp only [List.set]
          refine ev_iload rfl rfl rfl ?_
          refine ev_if_lt rfl rfl (fun c_111 => ?_) (fun c_111 => ?_)
          · refine ev_iinc (y := 1) rfl rfl rfl (by decide) rfl rfl ?_
            dsimp only [List.set]
            refine ev_goto rfl rfl ?_
            have e1_ : (if r_try h t (kk_ i) = -2 then (kyS (r_try h t) i).1 + 0 else (kyS (r_try h t) i).1 + 1) = _ := if_pos c_58
            have e2_ : ky1 (kk_ i) (r_try h t (kk_ i)) (kyS (r_try h t) i).2.1 (kyS (r_try h t) i).2.2 = ((kyS (r_try h t) i).2.1, (kyS (r_try h t) i).2.2) := by
              unfold ky1
              rw [if_pos c_111]
            have z_ := ih (i + 1) _ (by omega) (hX.call kx rfl)
            rw [show kyS (r_try h t) (i + 1) = (_, _) from rfl] at z_
            dsimp only at z_
            rw [e1_, e2_] at z_
            rw [kk_1]
            exact EvQ.drop 9 (EvQ.drop 8 (EvQ.drop 7 z_))
          · refine ev_iload rfl rfl rfl ?_
            refine ev_if_ne rfl rfl (fun c_116 => ?_) (fun z_ => absurd z_ (by decide))
            refine ev_iload rfl rfl rfl ?_
            refine ev_istore rfl rfl rfl rfl ?_
            dsimp only [List.set]
            refine ev_iload rfl rfl rfl ?_
            refine ev_istore rfl rfl rfl rfl ?_
            dsimp only [List.set]
            refine ev_iinc (y := 1) rfl rfl rfl (by decide) rfl rfl ?_
            dsimp only [List.set]
            refine ev_goto rfl rfl ?_
            have e1_ : (if r_try h t (kk_ i) = -2 then (kyS (r_try h t) i).1 + 0 else (kyS (r_try h t) i).1 + 1) = _ := if_pos c_58
            have e2_ : ky1 (kk_ i) (r_try h t (kk_ i)) (kyS (r_try h t) i).2.1 (kyS (r_try h t) i).2.2 = (kk_ i, r_try h t (kk_ i)) := by
              unfold ky1
              rw [if_neg c_111, if_pos c_72]
            have z_ := ih (i + 1) _ (by omega) (hX.call kx rfl)
            rw [show kyS (r_try h t) (i + 1) = (_, _) from rfl] at z_
            dsimp only at z_
            rw [e1_, e2_] at z_
            rw [kk_1]
            exact EvQ.drop 9 (EvQ.drop 8 (EvQ.drop 7 z_))
        · refine ev_iload rfl rfl rfl ?_
          refine ev_S1D rfl rfl lk_X9_224 st_J9_abs_0f7a4 rfl rfl (c_abs _ _ _) ?_
          refine ev_iload rfl rfl rfl ?_
          refine ev_S1D rfl rfl lk_X9_224 st_J9_abs_0f7a4 rfl rfl (c_abs _ _ _) ?_
          refine ev_icmp_ge rfl rfl (fun c_99 => ?_) (fun c_99 => ?_)
          · refine ev_iconst (v := 0) rfl rfl (by decide) ?_
            refine ev_istore rfl rfl rfl rfl ?_
            dsimp only [List.set]
            refine ev_iload rfl rfl rfl ?_
            refine ev_if_lt rfl rfl (fun c_111 => ?_) (fun c_111 => ?_)
            · refine ev_iinc (y := 1) rfl rfl rfl (by decide) rfl rfl ?_
              dsimp only [List.set]
              refine ev_goto rfl rfl ?_
              have e1_ : (if r_try h t (kk_ i) = -2 then (kyS (r_try h t) i).1 + 0 else (kyS (r_try h t) i).1 + 1) = _ := if_pos c_58
              have e2_ : ky1 (kk_ i) (r_try h t (kk_ i)) (kyS (r_try h t) i).2.1 (kyS (r_try h t) i).2.2 = ((kyS (r_try h t) i).2.1, (kyS (r_try h t) i).2.2) := by
                unfold ky1
                rw [if_pos c_111]
              have z_ := ih (i + 1) _ (by omega) (hX.call kx rfl)
              rw [show kyS (r_try h t) (i + 1) = (_, _) from rfl] at z_
              dsimp only at z_
              rw [e1_, e2_] at z_
              rw [kk_1]
              exact EvQ.drop 9 (EvQ.drop 8 (EvQ.drop 7 z_))
            · refine ev_iload rfl rfl rfl ?_
              refine ev_if_ne rfl rfl (fun c_116 => ?_) (fun z_ => absurd z_ (by decide))
              refine ev_iload rfl rfl rfl ?_
              refine ev_istore rfl rfl rfl rfl ?_
              dsimp only [List.set]
              refine ev_iload rfl rfl rfl ?_
              refine ev_istore rfl rfl rfl rfl ?_
              dsimp only [List.set]
              refine ev_iinc (y := 1) rfl rfl rfl (by decide) rfl rfl ?_
              dsimp only [List.set]
              refine ev_goto rfl rfl ?_
              have e1_ : (if r_try h t (kk_ i) = -2 then (kyS (r_try h t) i).1 + 0 else (kyS (r_try h t) i).1 + 1) = _ := if_pos c_58
              have e2_ : ky1 (kk_ i) (r_try h t (kk_ i)) (kyS (r_try h t) i).2.1 (kyS (r_try h t) i).2.2 = (kk_ i, r_try h t (kk_ i)) := by
                unfold ky1
                rw [if_neg c_111, if_pos c_72]
              have z_ := ih (i + 1) _ (by omega) (hX.call kx rfl)
              rw [show kyS (r_try h t) (i + 1) = (_, _) from rfl] at z_
              dsimp only at z_
              rw [e1_, e2_] at z_
              rw [kk_1]
              exact EvQ.drop 9 (EvQ.drop 8 (EvQ.drop 7 z_))
          · refine ev_iconst (v := 1) rfl rfl (by decide) ?_
            refine ev_goto rfl rfl ?_
            refine ev_istore rfl rfl rfl rfl ?_
            dsimp only [List.set]
            refine ev_iload rfl rfl rfl ?_
            refine ev_if_lt rfl rfl (fun c_111 => ?_) (fun c_111 => ?_)
            · refine ev_iinc (y := 1) rfl rfl rfl (by decide) rfl rfl ?_
              dsimp only [List.set]
              refine ev_goto rfl rfl ?_
              have e1_ : (if r_try h t (kk_ i) = -2 then (kyS (r_try h t) i).1 + 0 else (kyS (r_try h t) i).1 + 1) = _ := if_pos c_58
              have e2_ : ky1 (kk_ i) (r_try h t (kk_ i)) (kyS (r_try h t) i).2.1 (kyS (r_try h t) i).2.2 = ((kyS (r_try h t) i).2.1, (kyS (r_try h t) i).2.2) := by
                unfold ky1
                rw [if_pos c_111]
              have z_ := ih (i + 1) _ (by omega) (hX.call kx rfl)
              rw [show kyS (r_try h t) (i + 1) = (_, _) from rfl] at z_
              dsimp only at z_
              rw [e1_, e2_] at z_
              rw [kk_1]
              exact EvQ.drop 9 (EvQ.drop 8 (EvQ.drop 7 z_))
            · refine ev_iload rfl rfl rfl ?_
              refine ev_if_ne rfl rfl (fun c_116 => ?_) (fun z_ => absurd z_ (by decide))
              refine ev_iload rfl rfl rfl ?_
              refine ev_istore rfl rfl rfl rfl ?_
              dsimp only [List.set]
              refine ev_iload rfl rfl rfl ?_
              refine ev_istore rfl rfl rfl rfl ?_
              dsimp only [List.set]
              refine ev_iinc (y := 1) rfl rfl rfl (by decide) rfl rfl ?_
              dsimp only [List.set]
              refine ev_goto rfl rfl ?_
              have e1_ : (if r_try h t (kk_ i) = -2 then (kyS (r_try h t) i).1 + 0 else (kyS (r_try h t) i).1 + 1) = _ := if_pos c_58
              have e2_ : ky1 (kk_ i) (r_try h t (kk_ i)) (kyS (r_try h t) i).2.1 (kyS (r_try h t) i).2.2 = (kk_ i, r_try h t (kk_ i)) := by
                unfold ky1
                rw [if_neg c_111, if_pos c_72]
              have z_ := ih (i + 1) _ (by omega) (hX.call kx rfl)
              rw [show kyS (r_try h t) (i + 1) = (_, _) from rfl] at z_
              dsimp only at z_
              rw [e1_, e2_] at z_
              rw [kk_1]
              exact EvQ.drop 9 (EvQ.drop 8 (EvQ.drop 7 z_))

def r_key (h : Hp) (t q : Int32) : Int32 := if z_has t (h 28 2) = 0 then -100 else if z_wi q 0 2 = 0 then -100 else kyA (kyS (r_try h t) 23) q

set_option maxRecDepth 100000 in
set_option maxHeartbeats 4000000 in
theorem w_keyZ (L : Nat) (b : Bool) (h : Hp) (hB : Bx h) (t q : Int32) : EvI mi_X9_key [.ref 1, .int t, .int q] (G0 L b) h (fun r _ => r = r_key h t q) [(3, 0), (3, 1), (3, 2), (3, 3), (3, 4)] := by
  refine EvM.of2 (lo := [some (.ref 1), some (.int t), some (.int q), none, none, none, none, none, none, none]) pf_X9_key ok_X9_key rfl rfl ?_
  refine ev_aload_n rfl rfl rfl ?_
  refine ev_getR rfl rfl fl_X9_43 rfl rfl rfl rfl ?_
  refine ev_iload_n rfl rfl rfl ?_
  refine ev_V1D rfl rfl lk_X9_195 vt_X7_has rfl rfl rfl rfl rfl (c_X7_hasE L b h _) ?_
  refine ev_if_eq rfl rfl (fun c_8 => ?_) (fun c_8 => ?_)
  · refine ev_bipush (v := (-100)) rfl rfl (by decide) ?_
    exact ev_iret rfl rfl rfl (⟨⟨_, rfl, by simp only [r_key, if_pos c_8]⟩, rfl, JW.refl hB⟩)
  · refine ev_iload_n rfl rfl rfl ?_
    refine ev_iconst (v := 0) rfl rfl (by decide) ?_
    refine ev_iconst (v := 2) rfl rfl (by decide) ?_
    refine ev_S3D rfl rfl lk_X9_75 st_X9_isWithin rfl rfl (c_isWithin _ _ _ _ _) ?_
    refine ev_if_ne rfl rfl (fun c_17 => ?_) (fun c_17 => ?_)
    · refine ev_iconst (v := 0) rfl rfl (by decide) ?_
      refine ev_istore_n rfl rfl rfl rfl ?_
      dsimp only [List.set]
      refine ev_bipush (v := (-104)) rfl rfl (by decide) ?_
      refine ev_istore rfl rfl rfl rfl ?_
      dsimp only [List.set]
      refine ev_bipush (v := (-104)) rfl rfl (by decide) ?_
      refine ev_istore rfl rfl rfl rfl ?_
      dsimp only [List.set]
      refine ev_bipush (v := (-11)) rfl rfl (by decide) ?_
      refine ev_istore rfl rfl rfl rfl ?_
      dsimp only [List.set]
      have e_ : r_key h t q = kyA (kyS (r_try h t) 23) q := by simp only [r_key, if_neg c_8, if_neg c_17]
      rw [e_]
      exact l_key L b h t q 23 0 h (by omega) (JW.refl hB)
    · refine ev_bipush (v := (-100)) rfl rfl (by decide) ?_
      exact ev_iret rfl rfl rfl (⟨⟨_, rfl, by simp only [r_key, if_neg c_8, if_pos c_17]⟩, rfl, JW.refl hB⟩)

/-- the model's keys in their order -/
def ko (i : Nat) : Int32 := if nI i - nI i / 2 * 2 = 1 then (-(nI i + 1)) / 2 else nI i / 2
def km1 (k v b l : Int32) : Int32 × Int32 := if v < 0 then (b, l) else if b = -104 then (k, v) else if l ≤ v then (b, l) else (k, v)
def kmS (I R : Int32 → Int32) : Nat → Int32 × Int32 × Int32
  | 0 => (0, -104, 0)
  | i + 1 => if I (ko i) = 0 then kmS I R i else ((kmS I R i).1 + 1, km1 (ko i) (R (ko i)) (kmS I R i).2.1 (kmS I R i).2.2)
def kmA (s : Int32 × Int32 × Int32) (q : Int32) : Int32 := if q = 2 then s.1 else if s.2.1 = -104 then -104 else if q = 0 then s.2.1 else s.2.2
theorem kmS_0 {I R : Int32 → Int32} {i : Nat} (c : I (ko i) = 0) : kmS I R (i + 1) = kmS I R i := if_pos c
theorem kmS_1 {I R : Int32 → Int32} {i : Nat} (c : ¬ I (ko i) = 0) : kmS I R (i + 1) = ((kmS I R i).1 + 1, km1 (ko i) (R (ko i)) (kmS I R i).2.1 (kmS I R i).2.2) := if_neg c

set_option maxRecDepth 100000 in
set_option maxHeartbeats 4000000 in
theorem l_mkey (L : Nat) (b : Bool) (h : Hp) (hB : Bx h) (hd : ∀ c, 0 ≤ (s_md h c (h 63 5).toNatClampNeg).toInt) (n : Nat) (hn : n < 6) (q : Int32) : ∀ (u i : Nat), i + u = 23 → EvQ mi_X10_key 35 [some (.ref 63), some (.int (nI n)), some (.int q), some (.int (kmS (inM h (nI n)) (fun k => (yMr h (nI n) k).1) i).2.1), some (.int (kmS (inM h (nI n)) (fun k => (yMr h (nI n) k).1) i).2.2), some (.int (kmS (inM h (nI n)) (fun k => (yMr h (nI n) k).1) i).1), some (.int (nI i)), none, none] [] (G0 L b) h 0 0 (fun v G' h' => v = some (.int (kmA (kmS (inM h (nI n)) (fun k => (yMr h (nI n) k).1) 23) q)) ∧ G' = G0 L b ∧ h' = h) := by
  intro u
  induction u with
  | zero =>
    intro i hi
    have hi2 : i = 23 := by omega
    subst hi2
    refine ev_iload rfl rfl rfl ?_
    refine ev_bipush (v := 23) rfl rfl (by decide) ?_
    refine ev_icmp_ge rfl rfl (fun c_39 => ?_) (fun z_ => absurd (show (23 : Int32) ≤ nI 23 by decide) z_)
    refine ev_iload_n rfl rfl rfl ?_
    refine ev_iconst (v := 2) rfl rfl (by decide) ?_
    refine ev_icmp_ne rfl rfl (fun c_121 => ?_) (fun c_121 => ?_)
    · refine ev_iload_n rfl rfl rfl ?_
      refine ev_bipush (v := (-104)) rfl rfl (by decide) ?_
      refine ev_icmp_ne rfl rfl (fun c_132 => ?_) (fun c_132 => ?_)
      · refine ev_iload_n rfl rfl rfl ?_
        refine ev_if_ne rfl rfl (fun c_141 => ?_) (fun c_141 => ?_)
        · refine ev_iload rfl rfl rfl ?_
          exact ev_iret rfl rfl rfl (⟨congrArg (fun z => some (Value.int z)) (by simp only [kmA, if_pos c_39, if_neg c_121, if_neg c_132, if_neg c_141]), rfl, rfl⟩)
        · refine ev_iload_n rfl rfl rfl ?_
          refine ev_goto rfl rfl ?_
          exact ev_iret rfl rfl rfl (⟨congrArg (fun z => some (Value.int z)) (by simp only [kmA, if_pos c_39, if_neg c_121, if_neg c_132, if_pos c_141]), rfl, rfl⟩)
      · refine ev_bipush (v := (-104)) rfl rfl (by decide) ?_
        refine ev_goto rfl rfl ?_
        exact ev_iret rfl rfl rfl (⟨congrArg (fun z => some (Value.int z)) (by simp only [kmA, if_pos c_39, if_neg c_121, if_pos c_132]), rfl, rfl⟩)
    · refine ev_iload rfl rfl rfl ?_
      refine ev_goto rfl rfl ?_
      exact ev_iret rfl rfl rfl (⟨congrArg (fun z => some (Value.int z)) (by simp only [kmA, if_pos c_39, if_pos c_121]), rfl, rfl⟩)
  | succ u ih =>
    intro i hi
    refine ev_iload rfl rfl rfl ?_
    refine ev_bipush (v := 23) rfl rfl (by decide) ?_
    refine ev_icmp_ge rfl rfl (fun z_ => absurd z_ (show ¬ nI 23 ≤ nI i from nI_ge (by omega) (by omega))) (fun c_39 => ?_)
    refine ev_iload rfl rfl rfl ?_
    refine ev_iconst (v := 2) rfl rfl (by decide) ?_
    refine ev_irem rfl rfl (by decide) ?_
    refine ev_iconst (v := 1) rfl rfl (by decide) ?_
    refine ev_icmp_ne rfl rfl (fun c_47 => ?_) (fun c_47 => ?_)
    · refine ev_iload rfl rfl rfl ?_
      refine ev_iconst (v := 2) rfl rfl (by decide) ?_
      refine ev_idiv rfl rfl (by decide) ?_
      first | (have ek : ko i = _ := if_pos c_47; rw [← ek]) | (have ek : ko i = _ := if_neg c_47; rw [← ek])
      refine ev_istore rfl rfl rfl rfl ?_
      dsimp only [List.set]
      refine ev_aload_n rfl rfl rfl ?_
      refine ev_iload_n rfl rfl rfl ?_
      refine ev_iload rfl rfl rfl ?_
      refine ev_V2D rfl rfl lk_X10_286 vt_X10_isIn rfl rfl rfl rfl rfl (EvD.to (c_misIn L b h n hn _ (B.nI (u := 24) (hB 73 n)).2 (B.nI (u := 24) (hB 73 n)).1 (ko i)) (show _ = inM h (nI n) (ko i) from by unfold inM; rw [nI_clamp (show n < 2 ^ 31 by omega)]) rfl) ?_
      refine ev_if_eq rfl rfl (fun c_73 => ?_) (fun c_73 => ?_)
      · refine ev_iinc (y := 1) rfl rfl rfl (by decide) rfl rfl ?_
        dsimp only [List.set]
        refine ev_goto rfl rfl ?_
        have z_ := ih (i + 1) (by omega)
        rw [kmS_0 c_73] at z_
        rw [nI_1 i]
        exact EvQ.drop 7 z_
      · refine ev_iinc (y := 1) rfl rfl rfl (by decide) rfl rfl ?_
        dsimp only [List.set]
        refine ev_aload_n rfl rfl rfl ?_
        refine ev_iload_n rfl rfl rfl ?_
        refine ev_iload rfl rfl rfl ?_
        refine ev_V2D rfl rfl lk_X10_290 vt_X10_tried rfl rfl rfl rfl rfl (c_mtried L b h hB hd n hn (ko i)) ?_
        refine ev_istore rfl rfl rfl rfl ?_
        dsimp only [List.set]
        refine ev_iload rfl rfl rfl ?_
        refine ev_if_lt rfl rfl (fun c_90 => ?_) (fun c_90 => ?_)
        · refine ev_iinc (y := 1) rfl rfl rfl (by decide) rfl rfl ?_
          dsimp only [List.set]
          refine ev_goto rfl rfl ?_
          have e2_ : km1 (ko i) (yMr h (nI n) (ko i)).1 (kmS (inM h (nI n)) (fun k => (yMr h (nI n) k).1) i).2.1 (kmS (inM h (nI n)) (fun k => (yMr h (nI n) k).1) i).2.2 = ((kmS (inM h (nI n)) (fun k => (yMr h (nI n) k).1) i).2.1, (kmS (inM h (nI n)) (fun k => (yMr h (nI n) k).1) i).2.2) := by
            unfold km1
            rw [if_pos c_90]
          have z_ := ih (i + 1) (by omega)
          rw [kmS_1 c_73] at z_
          dsimp only at z_
          rw [e2_] at z_
          rw [nI_1 i]
          exact EvQ.drop 8 (EvQ.drop 7 z_)
        · refine ev_iload_n rfl rfl rfl ?_
          refine ev_bipush (v := (-104)) rfl rfl (by decide) ?_
          refine ev_icmp_eq rfl rfl (fun c_96 => ?_) (fun c_96 => ?_)
          · refine ev_iload rfl rfl rfl ?_
            refine ev_istore_n rfl rfl rfl rfl ?_
            dsimp only [List.set]
            refine ev_iload rfl rfl rfl ?_
            refine ev_istore rfl rfl rfl rfl ?_
            dsimp only [List.set]
            refine ev_iinc (y := 1) rfl rfl rfl (by decide) rfl rfl ?_
            dsimp only [List.set]
            refine ev_goto rfl rfl ?_
            have e2_ : km1 (ko i) (yMr h (nI n) (ko i)).1 (kmS (inM h (nI n)) (fun k => (yMr h (nI n) k).1) i).2.1 (kmS (inM h (nI n)) (fun k => (yMr h (nI n) k).1) i).2.2 = (ko i, (yMr h (nI n) (ko i)).1) := by
              unfold km1
              rw [if_neg c_90, if_pos c_96]
            have z_ := ih (i + 1) (by omega)
            rw [kmS_1 c_73] at z_
            dsimp only at z_
            rw [e2_] at z_
            rw [nI_1 i]
            exact EvQ.drop 8 (EvQ.drop 7 z_)
          · refine ev_iload rfl rfl rfl ?_
            refine ev_iload rfl rfl rfl ?_
            refine ev_icmp_ge rfl rfl (fun c_103 => ?_) (fun c_103 => ?_)
            · refine ev_iinc (y := 1) rfl rfl rfl (by decide) rfl rfl ?_
              dsimp only [List.set]
              refine ev_goto rfl rfl ?_
              have e2_ : km1 (ko i) (yMr h (nI n) (ko i)).1 (kmS (inM h (nI n)) (fun k => (yMr h (nI n) k).1) i).2.1 (kmS (inM h (nI n)) (fun k => (yMr h (nI n) k).1) i).2.2 = ((kmS (inM h (nI n)) (fun k => (yMr h (nI n) k).1) i).2.1, (kmS (inM h (nI n)) (fun k => (yMr h (nI n) k).1) i).2.2) := by
                unfold km1
                rw [if_neg c_90, if_neg c_96, if_pos c_103]
              have z_ := ih (i + 1) (by omega)
              rw [kmS_1 c_73] at z_
              dsimp only at z_
              rw [e2_] at z_
              rw [nI_1 i]
              exact EvQ.drop 8 (EvQ.drop 7 z_)
            · refine ev_iload rfl rfl rfl ?_
              refine ev_istore_n rfl rfl rfl rfl ?_
              dsimp only [List.set]
              refine ev_iload rfl rfl rfl ?_
              refine ev_istore rfl rfl rfl rfl ?_
              dsimp only [List.set]
              refine ev_iinc (y := 1) rfl rfl rfl (by decide) rfl rfl ?_
              dsimp only [List.set]
              refine ev_goto rfl rfl ?_
              have e2_ : km1 (ko i) (yMr h (nI n) (ko i)).1 (kmS (inM h (nI n)) (fun k => (yMr h (nI n) k).1) i).2.1 (kmS (inM h (nI n)) (fun k => (yMr h (nI n) k).1) i).2.2 = (ko i, (yMr h (nI n) (ko i)).1) := by
                unfold km1
                rw [if_neg c_90, if_neg c_96, if_neg c_103]
              have z_ := ih (i + 1) (by omega)
              rw [kmS_1 c_73] at z_
              dsimp only at z_
              rw [e2_] at z_
              rw [nI_1 i]
              exact EvQ.drop 8 (EvQ.drop 7 z_)
    · refine ev_iload rfl rfl rfl ?_
      refine ev_iconst (v := 1) rfl rfl (by decide) ?_
      refine ev_iadd rfl rfl ?_
      refine ev_ineg rfl rfl ?_
      refine ev_iconst (v := 2) rfl rfl (by decide) ?_
      refine ev_idiv rfl rfl (by decide) ?_
      refine ev_goto rfl rfl ?_
      first | (have ek : ko i = _ := if_pos c_47; rw [← ek]) | (have ek : ko i = _ := if_neg c_47; rw [← ek])
      refine ev_istore rfl rfl rfl rfl ?_
      dsimp only [List.set]
      refine ev_aload_n rfl rfl rfl ?_
      refine ev_iload_n rfl rfl rfl ?_
      refine ev_iload rfl rfl rfl ?_
      refine ev_V2D rfl rfl lk_X10_286 vt_X10_isIn rfl rfl rfl rfl rfl (EvD.to (c_misIn L b h n hn _ (B.nI (u := 24) (hB 73 n)).2 (B.nI (u := 24) (hB 73 n)).1 (ko i)) (show _ = inM h (nI n) (ko i) from by unfold inM; rw [nI_clamp (show n < 2 ^ 31 by omega)]) rfl) ?_
      refine ev_if_eq rfl rfl (fun c_73 => ?_) (fun c_73 => ?_)
      · refine ev_iinc (y := 1) rfl rfl rfl (by decide) rfl rfl ?_
        dsimp only [List.set]
        refine ev_goto rfl rfl ?_
        have z_ := ih (i + 1) (by omega)
        rw [kmS_0 c_73] at z_
        rw [nI_1 i]
        exact EvQ.drop 7 z_
      · refine ev_iinc (y := 1) rfl rfl rfl (by decide) rfl rfl ?_
        dsimp only [List.set]
        refine ev_aload_n rfl rfl rfl ?_
        refine ev_iload_n rfl rfl rfl ?_
        refine ev_iload rfl rfl rfl ?_
        refine ev_V2D rfl rfl lk_X10_290 vt_X10_tried rfl rfl rfl rfl rfl (c_mtried L b h hB hd n hn (ko i)) ?_
        refine ev_istore rfl rfl rfl rfl ?_
        dsimp only [List.set]
        refine ev_iload rfl rfl rfl ?_
        refine ev_if_lt rfl rfl (fun c_90 => ?_) (fun c_90 => ?_)
        · refine ev_iinc (y := 1) rfl rfl rfl (by decide) rfl rfl ?_
          dsimp only [List.set]
          refine ev_goto rfl rfl ?_
          have e2_ : km1 (ko i) (yMr h (nI n) (ko i)).1 (kmS (inM h (nI n)) (fun k => (yMr h (nI n) k).1) i).2.1 (kmS (inM h (nI n)) (fun k => (yMr h (nI n) k).1) i).2.2 = ((kmS (inM h (nI n)) (fun k => (yMr h (nI n) k).1) i).2.1, (kmS (inM h (nI n)) (fun k => (yMr h (nI n) k).1) i).2.2) := by
            unfold km1
            rw [if_pos c_90]
          have z_ := ih (i + 1) (by omega)
          rw [kmS_1 c_73] at z_
          dsimp only at z_
          rw [e2_] at z_
          rw [nI_1 i]
          exact EvQ.drop 8 (EvQ.drop 7 z_)
        · refine ev_iload_n rfl rfl rfl ?_
          refine ev_bipush (v := (-104)) rfl rfl (by decide) ?_
          refine ev_icmp_eq rfl rfl (fun c_96 => ?_) (fun c_96 => ?_)
          · refine ev_iload rfl rfl rfl ?_
            refine ev_istore_n rfl rfl rfl rfl ?_
            dsimp only [List.set]
            refine ev_iload rfl rfl rfl ?_
            refine ev_istore rfl rfl rfl rfl ?_
            dsimp only [List.set]
            refine ev_iinc (y := 1) rfl rfl rfl (by decide) rfl rfl ?_
            dsimp only [List.set]
            refine ev_goto rfl rfl ?_
            have e2_ : km1 (ko i) (yMr h (nI n) (ko i)).1 (kmS (inM h (nI n)) (fun k => (yMr h (nI n) k).1) i).2.1 (kmS (inM h (nI n)) (fun k => (yMr h (nI n) k).1) i).2.2 = (ko i, (yMr h (nI n) (ko i)).1) := by
              unfold km1
              rw [if_neg c_90, if_pos c_96]
            have z_ := ih (i + 1) (by omega)
            rw [kmS_1 c_73] at z_
            dsimp only at z_
            rw [e2_] at z_
            rw [nI_1 i]
            exact EvQ.drop 8 (EvQ.drop 7 z_)
          · refine ev_iload rfl rfl rfl ?_
            refine ev_iload rfl rfl rfl ?_
            refine ev_icmp_ge rfl rfl (fun c_103 => ?_) (fun c_103 => ?_)
            · refine ev_iinc (y := 1) rfl rfl rfl (by decide) rfl rfl ?_
              dsimp only [List.set]
              refine ev_goto rfl rfl ?_
              have e2_ : km1 (ko i) (yMr h (nI n) (ko i)).1 (kmS (inM h (nI n)) (fun k => (yMr h (nI n) k).1) i).2.1 (kmS (inM h (nI n)) (fun k => (yMr h (nI n) k).1) i).2.2 = ((kmS (inM h (nI n)) (fun k => (yMr h (nI n) k).1) i).2.1, (kmS (inM h (nI n)) (fun k => (yMr h (nI n) k).1) i).2.2) := by
                unfold km1
                rw [if_neg c_90, if_neg c_96, if_pos c_103]
              have z_ := ih (i + 1) (by omega)
              rw [kmS_1 c_73] at z_
              dsimp only at z_
              rw [e2_] at z_
              rw [nI_1 i]
              exact EvQ.drop 8 (EvQ.drop 7 z_)
            · refine ev_iload rfl rfl rfl ?_
              refine ev_istore_n rfl rfl rfl rfl ?_
              dsimp only [List.set]
              refine ev_iload rfl rfl rfl ?_
              refine ev_istore rfl rfl rfl rfl ?_
              dsimp only [List.set]
              refine ev_iinc (y := 1) rfl rfl rfl (by decide) rfl rfl ?_
              dsimp only [List.set]
              refine ev_goto rfl rfl ?_
              have e2_ : km1 (ko i) (yMr h (nI n) (ko i)).1 (kmS (inM h (nI n)) (fun k => (yMr h (nI n) k).1) i).2.1 (kmS (inM h (nI n)) (fun k => (yMr h (nI n) k).1) i).2.2 = (ko i, (yMr h (nI n) (ko i)).1) := by
                unfold km1
                rw [if_neg c_90, if_neg c_96, if_neg c_103]
              have z_ := ih (i + 1) (by omega)
              rw [kmS_1 c_73] at z_
              dsimp only at z_
              rw [e2_] at z_
              rw [nI_1 i]
              exact EvQ.drop 8 (EvQ.drop 7 z_)

def mKey (h : Hp) (t q : Int32) : Int32 := if z_has t (h 63 23) = 0 then -100 else if z_wi q 0 2 = 0 then -100 else kmA (kmS (inM h t) (fun k => (yMr h t k).1) 23) q

set_option maxRecDepth 100000 in
set_option maxHeartbeats 4000000 in
theorem m_xkey (L : Nat) (b : Bool) (h : Hp) (hB : Bx h) (hd : ∀ c, 0 ≤ (s_md h c (h 63 5).toNatClampNeg).toInt) (t q : Int32) : EvD mi_X10_key [.ref 63, .int t, .int q] (G0 L b) h (mKey h t q) (h) := by
  refine EvD.of (lo := [some (.ref 63), some (.int t), some (.int q), none, none, none, none, none, none]) pf_X10_key ok_X10_key rfl rfl ?_
  refine ev_aload_n rfl rfl rfl ?_
  refine ev_iload_n rfl rfl rfl ?_
  refine ev_V1D rfl rfl lk_X10_266 vt_X10_isTune rfl rfl rfl rfl rfl (c_misTune L b h hB _) ?_
  refine ev_if_eq rfl rfl (fun c_5 => ?_) (fun c_5 => ?_)
  · refine ev_bipush (v := (-100)) rfl rfl (by decide) ?_
    exact ev_iret rfl rfl rfl (⟨congrArg (fun z => some (Value.int z)) (by simp only [mKey, if_pos c_5]), rfl, rfl⟩)
  · refine ev_iload_n rfl rfl rfl ?_
    refine ev_i2l rfl rfl ?_
    refine ev_lconst (v := 0) rfl rfl rfl ?_
    refine ev_ldc2 rfl rfl kc_X10_183 ?_
    refine ev_S3D rfl rfl lk_X10_124 st_X10_in rfl rfl (c_inw _ _ _ (0) (2) (by decide) (by decide)) ?_
    refine ev_if_ne rfl rfl (fun c_17 => ?_) (fun c_17 => ?_)
    · have pt : B t 0 5 := by
        have z_ := z_has_B (show B (h 63 23) 0 6 from hB 63 23) c_5
        have y_ := (show B (h 63 23) 0 6 from hB 63 23).2
        exact ⟨z_.1, by omega⟩
      obtain ⟨n, hn, rfl, en⟩ := B.nat6 pt
      refine ev_bipush (v := (-104)) rfl rfl (by decide) ?_
      refine ev_istore_n rfl rfl rfl rfl ?_
      dsimp only [List.set]
      refine ev_iconst (v := 0) rfl rfl (by decide) ?_
      refine ev_istore rfl rfl rfl rfl ?_
      dsimp only [List.set]
      refine ev_iconst (v := 0) rfl rfl (by decide) ?_
      refine ev_istore rfl rfl rfl rfl ?_
      dsimp only [List.set]
      refine ev_iconst (v := 0) rfl rfl (by decide) ?_
      refine ev_istore rfl rfl rfl rfl ?_
      dsimp only [List.set]
      have e_ : mKey h (nI n) q = kmA (kmS (inM h (nI n)) (fun k => (yMr h (nI n) k).1) 23) q := by simp only [mKey, if_neg c_5, if_neg c_17]
      rw [e_]
      exact l_mkey L b h hB hd n hn q 23 0 (by omega)
    · refine ev_bipush (v := (-100)) rfl rfl (by decide) ?_
      exact ev_iret rfl rfl rfl (⟨congrArg (fun z => some (Value.int z)) (by simp only [mKey, if_neg c_5, if_pos c_17]), rfl, rfl⟩)

