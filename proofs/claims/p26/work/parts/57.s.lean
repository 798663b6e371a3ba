def eX (h : Hp) (m M : Nat) (c v : Nat → Int32) (p : Int32) (u : Nat) : Option (Nat → Int32) := xs c v (xC h) (dN h m (lkE u)) M 0 p (fun _ => false) (fun _ => 0)
theorem c_explE (L : Nat) (b : Bool) (h : Hp) (M : Nat) (hM : M ≤ 24) (e2 : h 45 2 = nI M) (c v : Nat → Int32) (ec : ∀ i, i < M → h 46 i = c i) (ev : ∀ i, i < M → h 47 i = v i) (bc : ∀ i, i < M → B (c i) 0 4095) (m : Nat) (hm0 : m ≤ 12) (hm : h 4 7 = nI m) (p : Int32) (F : Hp) (hJ : JW [(45, 4), (45, 6), (45, 7), (48, 999), (49, 999)] h F) (u : Nat) (hu : u ≤ m) : EvI mi_X6_explains [.ref 45, .ref 2, .ref 4, .int p, .int (nI u - 1)] (G0 L b) F (fun r z => XP (eX h m M c v p u) r (z 48)) [(45, 4), (48, 999)] := by
  have fx : xC F = xC h := funext (fun w => funext (fun p => funext (fun v => xC_cg (hJ.2 5 w rfl) (hJ.2 9 w rfl) (hJ.2 7 w rfl) p v)))
  have fd : ∀ lk, dN F m lk = dN h m lk := fun lk => funext (fun p => funext (fun c => by
    unfold dN
    rw [hJ.2 2 3 rfl, hJ.2 2 2 rfl, s_drawn_cg (fun k => hJ.2 6 k rfl)]))
  have g2 : F 45 2 = nI M := (hJ.2 45 2 rfl).trans e2
  have gc : ∀ i, i < M → F 46 i = c i := fun i hi => (hJ.2 46 i rfl).trans (ec i hi)
  have gv : ∀ i, i < M → F 47 i = v i := fun i hi => (hJ.2 47 i rfl).trans (ev i hi)
  have gm : F 4 7 = nI m := (hJ.2 4 7 rfl).trans hm
  cases u with
  | zero =>
    have z := c_expl0 L b F hJ.1 M hM g2 c v gc gv bc m hm0 gm p
    rw [fx, fd] at z
    exact z
  | succ j =>
    have z := c_expl1 L b F hJ.1 M hM g2 c v gc gv bc m hm0 gm p j (by omega)
    rw [fx, fd] at z
    rw [nI_m1]
    exact z
theorem FS.B {o : Option (Int32 × Nat × (Nat → Int32))} {q : Int32} {F : Hp} (h : FS o q F) : B q 0 1 := by
  cases o with
  | none => rw [h.1 rfl]; decide
  | some x => rw [(h.2 x rfl).1]; decide
theorem FS.cg {o : Option (Int32 × Nat × (Nat → Int32))} {q : Int32} {F F1 : Hp} (h : FS o q F) (hJ : JW [(45, 4), (48, 999)] F F1) : FS o q F1 := ⟨h.1, fun x e => by
  obtain ⟨a, b, c, d⟩ := h.2 x e
  exact ⟨a, (hJ.2 45 6 rfl).trans b, (hJ.2 45 7 rfl).trans c, fun w hw => (hJ.2 49 w rfl).trans (d w hw)⟩⟩
theorem nI_u1 (u : Nat) : nI u - 1 + 1 = nI (u + 1) - 1 := by rw [nI_m1, Int32.sub_add_cancel]
theorem u_ge {u m : Nat} (hu : u ≤ m) (hm : m ≤ 12) : ¬ nI m ≤ nI u - 1 := fun z => by
  have y := w_le z
  have e1 := nI_toInt (show m < 2 ^ 31 by omega)
  have e2 := nI_toInt (show u < 2 ^ 31 by omega)
  have e3 : (1 : Int32).toInt = 1 := by decide
  rw [w_sub (by omega) (by omega)] at y
  omega
theorem u_ne {u : Nat} (hu : u ≠ 0) (hu2 : u ≤ 12) : ¬ nI u - 1 = -1 := fun z => by
  have y := congrArg Int32.toInt z
  have e2 := nI_toInt (show u < 2 ^ 31 by omega)
  have e3 : (1 : Int32).toInt = 1 := by decide
  have e4 : (-1 : Int32).toInt = -1 := by decide
  rw [w_sub (by omega) (by omega)] at y
  omega

set_option maxRecDepth 100000 in
set_option maxHeartbeats 4000000 in
theorem l_find (L : Nat) (b : Bool) (h : Hp) (M : Nat) (hM : M ≤ 24) (e2 : h 45 2 = nI M) (c v : Nat → Int32) (ec : ∀ i, i < M → h 46 i = c i) (ev : ∀ i, i < M → h 47 i = v i) (bc : ∀ i, i < M → B (c i) 0 4095) (m : Nat) (hm0 : m ≤ 12) (hm : h 4 7 = nI m) (p : Int32) : ∀ (s u : Nat) (q : Int32) (F : Hp), u + s = m + 1 → JW [(45, 4), (45, 6), (45, 7), (48, 999), (49, 999)] h F → FS (fr (eX h m M c v p) u) q F → EvQ mi_X6_find 6 [some (.ref 45), some (.ref 2), some (.ref 4), some (.int p), some (.int q), some (.int (nI u - 1)), none] [] (G0 L b) F 0 0 (QI (fun r z => FS (fr (eX h m M c v p) (m + 1)) r z) [(45, 4), (45, 6), (45, 7), (48, 999), (49, 999)] (G0 L b) h) := by
  intro s
  induction s with
  | zero =>
    intro u q F hu hJ hS
    have hu2 : u = m + 1 := by omega
    subst hu2
    have e47 : F 4 7 = nI m := (hJ.2 4 7 rfl).trans hm
    refine ev_iload rfl rfl rfl ?_
    refine ev_aload_n rfl rfl rfl ?_
    refine ev_getI rfl rfl fl_X6_37 rfl rfl rfl ?_
    try simp only [e47]
    refine ev_icmp_ge rfl rfl (fun c_12 => ?_) (fun z_ => absurd (by rw [nI_m1]; exact Int32.le_refl _) z_)
    refine ev_iload rfl rfl rfl ?_
    exact ev_iret rfl rfl (ev_rtB hS.B) (⟨⟨_, rfl, hS⟩, rfl, hJ⟩)
  | succ s ih =>
    intro u q F hu hJ hS
    have e47 : F 4 7 = nI m := (hJ.2 4 7 rfl).trans hm
    refine ev_iload rfl rfl rfl ?_
    refine ev_aload_n rfl rfl rfl ?_
    refine ev_getI rfl rfl fl_X6_37 rfl rfl rfl ?_
    try simp only [e47]
    refine ev_icmp_ge rfl rfl (fun z_ => absurd z_ (u_ge (by omega) hm0)) (fun c_12 => ?_)
    refine ev_aload_n rfl rfl rfl ?_
    refine ev_aload_n rfl rfl rfl ?_
    refine ev_aload_n rfl rfl rfl ?_
    refine ev_iload_n rfl rfl rfl ?_
    refine ev_iload rfl rfl rfl ?_
    refine ev_V4I hJ rfl rfl rfl lk_X6_42 vt_X6_explains rfl rfl rfl rfl rfl (c_explE L b h M hM e2 c v ec ev bc m hm0 hm p F hJ u (by omega)) (fun r1 F1 q1 j1 k1 => ?_)
    cases hE : (eX h m M c v p) u with
    | none =>
      have r0 := q1.1 hE
      refine ev_if_eq rfl rfl (fun c_24 => ?_) (fun z_ => absurd r0 z_)
      refine ev_iinc (y := 1) rfl rfl rfl (by decide) rfl rfl ?_
      dsimp only [List.set]
      refine ev_goto rfl rfl ?_
      have hS3 : FS (fr (eX h m M c v p) (u + 1)) q F1 := by rw [fr_n hE]; exact hS.cg k1
      rw [nI_u1]
      exact EvQ.drop 6 (ih (u + 1) q F1 (by omega) j1 hS3)
    | some tr =>
      obtain ⟨r1_, e48⟩ := q1.2 tr hE
      by_cases hu0 : u = 0
      · have ecost : co u tr = s_ct tr 12 + 0 := if_pos hu0
        cases hf : fr (eX h m M c v p) u with
        | none =>
          have q0 := hS.1 hf
          refine ev_if_eq rfl rfl (fun z_ => absurd z_ (by rw [r1_]; decide)) (fun c_24 => ?_)
          refine ev_aload_n rfl rfl rfl ?_
          refine ev_V0D rfl rfl lk_X6_46 vt_X6_triedCracks rfl rfl rfl rfl rfl (EvD.to (c_tcr L b F1) (s_ct_cg 12 e48) rfl) ?_
          refine ev_iload rfl rfl rfl ?_
          refine ev_iconst (v := (-1)) rfl rfl (by decide) ?_
          refine ev_icmp_ne rfl rfl (fun z_ => absurd (by rw [hu0]; decide) z_) (fun c_34 => ?_)
          refine ev_iconst (v := 0) rfl rfl (by decide) ?_
          refine ev_goto rfl rfl ?_
          refine ev_iadd rfl rfl ?_
          refine ev_istore rfl rfl rfl rfl ?_
          dsimp only [List.set]
          refine ev_iload rfl rfl rfl ?_
          refine ev_if_eq rfl rfl (fun c_47 => ?_) (fun z_ => absurd q0 z_)
          refine ev_iconst (v := 1) rfl rfl (by decide) ?_
          refine ev_istore rfl rfl rfl rfl ?_
          dsimp only [List.set]
          refine ev_aload_n rfl rfl rfl ?_
          refine ev_iload rfl rfl rfl ?_
          refine ev_putI rfl rfl fl_X6_31 rfl rfl rfl rfl rfl ?_
          refine ev_aload_n rfl rfl rfl ?_
          refine ev_iload rfl rfl rfl ?_
          refine ev_putI rfl rfl fl_X6_34 rfl rfl rfl rfl rfl ?_
          refine ev_aload_n rfl rfl rfl ?_
          refine ev_getR rfl rfl fl_X6_22 rfl rfl rfl rfl ?_
          refine ev_iconst (v := 0) rfl rfl (by decide) ?_
          refine ev_aload_n rfl rfl rfl ?_
          refine ev_getR rfl rfl fl_X6_28 rfl rfl rfl rfl ?_
          refine ev_iconst (v := 0) rfl rfl (by decide) ?_
          refine ev_bipush (v := 12) rfl rfl (by decide) ?_
          refine ev_copy (sN := 0) (dN := 0) (nN := 12) rfl rfl cp_X6_50 cp_n cp_s cp_i rfl rfl rfl rfl (by decide) (by decide) (by decide) (by decide) (by decide) (by decide) (by decide) (by decide) rfl rfl (by decide) ?_
          refine ev_iinc (y := 1) rfl rfl rfl (by decide) rfl rfl ?_
          dsimp only [List.set]
          refine ev_goto rfl rfl ?_
          have hJ3 : JW [(45, 4), (45, 6), (45, 7), (48, 999), (49, 999)] h (ev_cpy (ev_set (ev_set F1 45 6 (s_ct tr 12 + 0)) 45 7 (nI u - 1)) 48 49 0 0 12) := JW.cpy ((j1.set rfl (B.any _)).set rfl (B.any _)) (fun _ => rfl) (fun _ => rfl) (by decide) (by decide) (fun _ => rfl)
          have hS3 : FS (fr (eX h m M c v p) (u + 1)) 1 (ev_cpy (ev_set (ev_set F1 45 6 (s_ct tr 12 + 0)) 45 7 (nI u - 1)) 48 49 0 0 12) := by
            rw [fr_0 hE hf]
            refine ⟨fun z => (by cases z), fun x e => ?_⟩
            cases e
            refine ⟨rfl, ?_, ?_, fun w hw => ?_⟩
            · rw [ev_rc1 (by decide), ev_rd3 (by decide), ev_rd1]; exact ecost.symm
            · rw [ev_rc1 (by decide), ev_rd1]
            · show va_cpy _ _ 0 0 12 w = tr w
              unfold va_cpy
              rw [if_pos ⟨Nat.zero_le _, by omega⟩, Nat.zero_add, Nat.sub_zero, ev_rd2 (by decide), ev_rd2 (by decide)]
              exact e48 w hw
          rw [nI_u1]
          exact EvQ.drop 6 (ih (u + 1) 1 _ (by omega) hJ3 hS3)
        | some x =>
          obtain ⟨q1_, x1, x2, x3⟩ := hS.2 x hf
          have x1' : F1 45 6 = x.1 := (k1.2 45 6 rfl).trans x1
          refine ev_if_eq rfl rfl (fun z_ => absurd z_ (by rw [r1_]; decide)) (fun c_24 => ?_)
          refine ev_aload_n rfl rfl rfl ?_
          refine ev_V0D rfl rfl lk_X6_46 vt_X6_triedCracks rfl rfl rfl rfl rfl (EvD.to (c_tcr L b F1) (s_ct_cg 12 e48) rfl) ?_
          refine ev_iload rfl rfl rfl ?_
          refine ev_iconst (v := (-1)) rfl rfl (by decide) ?_
          refine ev_icmp_ne rfl rfl (fun z_ => absurd (by rw [hu0]; decide) z_) (fun c_34 => ?_)
          refine ev_iconst (v := 0) rfl rfl (by decide) ?_
          refine ev_goto rfl rfl ?_
          refine ev_iadd rfl rfl ?_
          refine ev_istore rfl rfl rfl rfl ?_
          dsimp only [List.set]
          refine ev_iload rfl rfl rfl ?_
          refine ev_if_eq rfl rfl (fun z_ => absurd z_ (by rw [q1_]; decide)) (fun c_47 => ?_)
          refine ev_iload rfl rfl rfl ?_
          refine ev_aload_n rfl rfl rfl ?_
          refine ev_getI rfl rfl fl_X6_31 rfl rfl rfl ?_
          try simp only [x1']
          refine ev_icmp_ge rfl rfl (fun c_56 => ?_) (fun c_56 => ?_)
          · refine ev_iinc (y := 1) rfl rfl rfl (by decide) rfl rfl ?_
            dsimp only [List.set]
            refine ev_goto rfl rfl ?_
            have hS3 : FS (fr (eX h m M c v p) (u + 1)) q F1 := by rw [fr_g hE hf (by rw [ecost]; exact Int32.not_lt.mpr c_56), ← hf]; exact hS.cg k1
            rw [nI_u1]
            exact EvQ.drop 6 (ih (u + 1) q F1 (by omega) j1 hS3)
          · refine ev_iconst (v := 1) rfl rfl (by decide) ?_
            refine ev_istore rfl rfl rfl rfl ?_
            dsimp only [List.set]
            refine ev_aload_n rfl rfl rfl ?_
            refine ev_iload rfl rfl rfl ?_
            refine ev_putI rfl rfl fl_X6_31 rfl rfl rfl rfl rfl ?_
            refine ev_aload_n rfl rfl rfl ?_
            refine ev_iload rfl rfl rfl ?_
            refine ev_putI rfl rfl fl_X6_34 rfl rfl rfl rfl rfl ?_
            refine ev_aload_n rfl rfl rfl ?_
            refine ev_getR rfl rfl fl_X6_22 rfl rfl rfl rfl ?_
            refine ev_iconst (v := 0) rfl rfl (by decide) ?_
            refine ev_aload_n rfl rfl rfl ?_
            refine ev_getR rfl rfl fl_X6_28 rfl rfl rfl rfl ?_
            refine ev_iconst (v := 0) rfl rfl (by decide) ?_
            refine ev_bipush (v := 12) rfl rfl (by decide) ?_
            refine ev_copy (sN := 0) (dN := 0) (nN := 12) rfl rfl cp_X6_50 cp_n cp_s cp_i rfl rfl rfl rfl (by decide) (by decide) (by decide) (by decide) (by decide) (by decide) (by decide) (by decide) rfl rfl (by decide) ?_
            refine ev_iinc (y := 1) rfl rfl rfl (by decide) rfl rfl ?_
            dsimp only [List.set]
            refine ev_goto rfl rfl ?_
            have hJ3 : JW [(45, 4), (45, 6), (45, 7), (48, 999), (49, 999)] h (ev_cpy (ev_set (ev_set F1 45 6 (s_ct tr 12 + 0)) 45 7 (nI u - 1)) 48 49 0 0 12) := JW.cpy ((j1.set rfl (B.any _)).set rfl (B.any _)) (fun _ => rfl) (fun _ => rfl) (by decide) (by decide) (fun _ => rfl)
            have hS3 : FS (fr (eX h m M c v p) (u + 1)) 1 (ev_cpy (ev_set (ev_set F1 45 6 (s_ct tr 12 + 0)) 45 7 (nI u - 1)) 48 49 0 0 12) := by
              rw [fr_l hE hf (by rw [ecost]; exact Int32.not_le.mp c_56)]
              refine ⟨fun z => (by cases z), fun x e => ?_⟩
              cases e
              refine ⟨rfl, ?_, ?_, fun w hw => ?_⟩
              · rw [ev_rc1 (by decide), ev_rd3 (by decide), ev_rd1]; exact ecost.symm
              · rw [ev_rc1 (by decide), ev_rd1]
              · show va_cpy _ _ 0 0 12 w = tr w
                unfold va_cpy
                rw [if_pos ⟨Nat.zero_le _, by omega⟩, Nat.zero_add, Nat.sub_zero, ev_rd2 (by decide), ev_rd2 (by decide)]
                exact e48 w hw
            rw [nI_u1]
            exact EvQ.drop 6 (ih (u + 1) 1 _ (by omega) hJ3 hS3)
      · have ecost : co u tr = s_ct tr 12 + 1 := if_neg hu0
        cases hf : fr (eX h m M c v p) u with
        | none =>
          have q0 := hS.1 hf
          refine ev_if_eq rfl rfl (fun z_ => absurd z_ (by rw [r1_]; decide)) (fun c_24 => ?_)
          refine ev_aload_n rfl rfl rfl ?_
          refine ev_V0D rfl rfl lk_X6_46 vt_X6_triedCracks rfl rfl rfl rfl rfl (EvD.to (c_tcr L b F1) (s_ct_cg 12 e48) rfl) ?_
          refine ev_iload rfl rfl rfl ?_
          refine ev_iconst (v := (-1)) rfl rfl (by decide) ?_
          refine ev_icmp_ne rfl rfl (fun c_34 => ?_) (fun z_ => absurd z_ (u_ne hu0 (by omega)))
          refine ev_iconst (v := 1) rfl rfl (by decide) ?_
          refine ev_iadd rfl rfl ?_
          refine ev_istore rfl rfl rfl rfl ?_
          dsimp only [List.set]
          refine ev_iload rfl rfl rfl ?_
          refine ev_if_eq rfl rfl (fun c_47 => ?_) (fun z_ => absurd q0 z_)
          refine ev_iconst (v := 1) rfl rfl (by decide) ?_
          refine ev_istore rfl rfl rfl rfl ?_
          dsimp only [List.set]
          refine ev_aload_n rfl rfl rfl ?_
          refine ev_iload rfl rfl rfl ?_
          refine ev_putI rfl rfl fl_X6_31 rfl rfl rfl rfl rfl ?_
          refine ev_aload_n rfl rfl rfl ?_
          refine ev_iload rfl rfl rfl ?_
          refine ev_putI rfl rfl fl_X6_34 rfl rfl rfl rfl rfl ?_
          refine ev_aload_n rfl rfl rfl ?_
          refine ev_getR rfl rfl fl_X6_22 rfl rfl rfl rfl ?_
          refine ev_iconst (v := 0) rfl rfl (by decide) ?_
          refine ev_aload_n rfl rfl rfl ?_
          refine ev_getR rfl rfl fl_X6_28 rfl rfl rfl rfl ?_
          refine ev_iconst (v := 0) rfl rfl (by decide) ?_
          refine ev_bipush (v := 12) rfl rfl (by decide) ?_
          refine ev_copy (sN := 0) (dN := 0) (nN := 12) rfl rfl cp_X6_50 cp_n cp_s cp_i rfl rfl rfl rfl (by decide) (by decide) (by decide) (by decide) (by decide) (by decide) (by decide) (by decide) rfl rfl (by decide) ?_
          refine ev_iinc (y := 1) rfl rfl rfl (by decide) rfl rfl ?_
          dsimp only [List.set]
          refine ev_goto rfl rfl ?_
          have hJ3 : JW [(45, 4), (45, 6), (45, 7), (48, 999), (49, 999)] h (ev_cpy (ev_set (ev_set F1 45 6 (s_ct tr 12 + 1)) 45 7 (nI u - 1)) 48 49 0 0 12) := JW.cpy ((j1.set rfl (B.any _)).set rfl (B.any _)) (fun _ => rfl) (fun _ => rfl) (by decide) (by decide) (fun _ => rfl)
          have hS3 : FS (fr (eX h m M c v p) (u + 1)) 1 (ev_cpy (ev_set (ev_set F1 45 6 (s_ct tr 12 + 1)) 45 7 (nI u - 1)) 48 49 0 0 12) := by
            rw [fr_0 hE hf]
            refine ⟨fun z => (by cases z), fun x e => ?_⟩
            cases e
            refine ⟨rfl, ?_, ?_, fun w hw => ?_⟩
            · rw [ev_rc1 (by decide), ev_rd3 (by decide), ev_rd1]; exact ecost.symm
            · rw [ev_rc1 (by decide), ev_rd1]
            · show va_cpy _ _ 0 0 12 w = tr w
              unfold va_cpy
              rw [if_pos ⟨Nat.zero_le _, by omega⟩, Nat.zero_add, Nat.sub_zero, ev_rd2 (by decide), ev_rd2 (by decide)]
              exact e48 w hw
          rw [nI_u1]
          exact EvQ.drop 6 (ih (u + 1) 1 _ (by omega) hJ3 hS3)
        | some x =>
          obtain ⟨q1_, x1, x2, x3⟩ := hS.2 x hf
          have x1' : F1 45 6 = x.1 := (k1.2 45 6 rfl).trans x1
          refine ev_if_eq rfl rfl (fun z_ => absurd z_ (by rw [r1_]; decide)) (fun c_24 => ?_)
          refine ev_aload_n rfl rfl rfl ?_
          refine ev_V0D rfl rfl lk_X6_46 vt_X6_triedCracks rfl rfl rfl rfl rfl (EvD.to (c_tcr L b F1) (s_ct_cg 12 e48) rfl) ?_
          refine ev_iload rfl rfl rfl ?_
          refine ev_iconst (v := (-1)) rfl rfl (by decide) ?_
          refine ev_icmp_ne rfl rfl (fun c_34 => ?_) (fun z_ => absurd z_ (u_ne hu0 (by omega)))
          refine ev_iconst (v := 1) rfl rfl (by decide) ?_
          refine ev_iadd rfl rfl ?_
          refine ev_istore rfl rfl rfl rfl ?_
          dsimp only [List.set]
          refine ev_iload rfl rfl rfl ?_
          refine ev_if_eq rfl rfl (fun z_ => absurd z_ (by rw [q1_]; decide)) (fun c_47 => ?_)
          refine ev_iload rfl rfl rfl ?_
          refine ev_aload_n rfl rfl rfl ?_
          refine ev_getI rfl rfl fl_X6_31 rfl rfl rfl ?_
          try simp only [x1']
          refine ev_icmp_ge rfl rfl (fun c_56 => ?_) (fun c_56 => ?_)
          · refine ev_iinc (y := 1) rfl rfl rfl (by decide) rfl rfl ?_
            dsimp only [List.set]
            refine ev_goto rfl rfl ?_
            have hS3 : FS (fr (eX h m M c v p) (u + 1)) q F1 := by rw [fr_g hE hf (by rw [ecost]; exact Int32.not_lt.mpr c_56), ← hf]; exact hS.cg k1
            rw [nI_u1]
            exact EvQ.drop 6 (ih (u + 1) q F1 (by omega) j1 hS3)
          · refine ev_iconst (v := 1) rfl rfl (by decide) ?_
            refine ev_istore rfl rfl rfl rfl ?_
            dsimp only [List.set]
            refine ev_aload_n rfl rfl rfl ?_
            refine ev_iload rfl rfl rfl ?_
            refine ev_putI rfl rfl fl_X6_31 rfl rfl rfl rfl rfl ?_
            refine ev_aload_n rfl rfl rfl ?_
            refine ev_iload rfl rfl rfl ?_
            refine ev_putI rfl rfl fl_X6_34 rfl rfl rfl rfl rfl ?_
            refine ev_aload_n rfl rfl rfl ?_
            refine ev_getR rfl rfl fl_X6_22 rfl rfl rfl rfl ?_
            refine ev_iconst (v := 0) rfl rfl (by decide) ?_
            refine ev_aload_n rfl rfl rfl ?_
            refine ev_getR rfl rfl fl_X6_28 rfl rfl rfl rfl ?_
            refine ev_iconst (v := 0) rfl rfl (by decide) ?_
            refine ev_bipush (v := 12) rfl rfl (by decide) ?_
            refine ev_copy (sN := 0) (dN := 0) (nN := 12) rfl rfl cp_X6_50 cp_n cp_s cp_i rfl rfl rfl rfl (by decide) (by decide) (by decide) (by decide) (by decide) (by decide) (by decide) (by decide) rfl rfl (by decide) ?_
            refine ev_iinc (y := 1) rfl rfl rfl (by decide) rfl rfl ?_
            dsimp only [List.set]
            refine ev_goto rfl rfl ?_
            have hJ3 : JW [(45, 4), (45, 6), (45, 7), (48, 999), (49, 999)] h (ev_cpy (ev_set (ev_set F1 45 6 (s_ct tr 12 + 1)) 45 7 (nI u - 1)) 48 49 0 0 12) := JW.cpy ((j1.set rfl (B.any _)).set rfl (B.any _)) (fun _ => rfl) (fun _ => rfl) (by decide) (by decide) (fun _ => rfl)
            have hS3 : FS (fr (eX h m M c v p) (u + 1)) 1 (ev_cpy (ev_set (ev_set F1 45 6 (s_ct tr 12 + 1)) 45 7 (nI u - 1)) 48 49 0 0 12) := by
              rw [fr_l hE hf (by rw [ecost]; exact Int32.not_le.mp c_56)]
              refine ⟨fun z => (by cases z), fun x e => ?_⟩
              cases e
              refine ⟨rfl, ?_, ?_, fun w hw => ?_⟩
              · rw [ev_rc1 (by decide), ev_rd3 (by decide), ev_rd1]; exact ecost.symm
              · rw [ev_rc1 (by decide), ev_rd1]
              · show va_cpy _ _ 0 0 12 w = tr w
                unfold va_cpy
                rw [if_pos ⟨Nat.zero_le _, by omega⟩, Nat.zero_add, Nat.sub_zero, ev_rd2 (by decide), ev_rd2 (by decide)]
                exact e48 w hw
            rw [nI_u1]
            exact EvQ.drop 6 (ih (u + 1) 1 _ (by omega) hJ3 hS3)

set_option maxRecDepth 100000 in
set_option maxHeartbeats 4000000 in
theorem c_find (L : Nat) (b : Bool) (h : Hp) (hB : Bx h) (M : Nat) (hM : M ≤ 24) (e2 : h 45 2 = nI M) (c v : Nat → Int32) (ec : ∀ i, i < M → h 46 i = c i) (ev : ∀ i, i < M → h 47 i = v i) (bc : ∀ i, i < M → B (c i) 0 4095) (m : Nat) (hm0 : m ≤ 12) (hm : h 4 7 = nI m) (p : Int32)  : EvI mi_X6_find [.ref 45, .ref 2, .ref 4, .int p] (G0 L b) h (fun r z => FS (fr (eX h m M c v p) (m + 1)) r z) [(45, 4), (45, 6), (45, 7), (48, 999), (49, 999)] := by
  refine EvM.of2 (lo := [some (.ref 45), some (.ref 2), some (.ref 4), some (.int p), none, none, none]) pf_X6_find ok_X6_find rfl rfl ?_
  refine ev_iconst (v := 0) rfl rfl (by decide) ?_
  refine ev_istore rfl rfl rfl rfl ?_
  dsimp only [List.set]
  refine ev_iconst (v := (-1)) rfl rfl (by decide) ?_
  refine ev_istore rfl rfl rfl rfl ?_
  dsimp only [List.set]
  exact l_find L b h M hM e2 c v ec ev bc m hm0 hm p (m + 1) 0 0 h (by omega) (JW.refl hB) ⟨fun _ => rfl, fun x e => by cases e⟩

def r_ans (h : Hp) (q : Int32) : Int32 := if q = 0 then h 45 6 else if q = 1 then (if h 45 7 = -1 then -4 else h 45 7) else if q = 2 then s_cb (h 49) 12 else h 49 (q - 20).toNatClampNeg
theorem z_q20 {q : Int32} (hq : B q 0 2 ∨ B q 20 31) (c0 : ¬ q = 0) (c1 : ¬ q = 1) (c2 : ¬ q = 2) : B (q - 20) 0 11 := by
  have p : B q 20 31 := by
    rcases hq with p | p
    · exfalso
      have p1 : B q 1 2 := R_neL p (by decide : B 0 0 0) c0 (by decide)
      have p2 : B q 2 2 := R_neL p1 (by decide : B 1 1 1) c1 (by decide)
      exact c2 (D_eq p2 (by decide))
    · exact p
  exact (B.sub p (by decide : B 20 20 20) (by decide) (by decide)).1

set_option maxRecDepth 100000 in
set_option maxHeartbeats 4000000 in
theorem c_ans (L : Nat) (b : Bool) (h : Hp) (q : Int32) (hq : B q 0 2 ∨ B q 20 31) : EvD mi_X6_answer [.ref 45, .int q] (G0 L b) h (r_ans h q) (h) := by
  refine EvD.of (lo := [some (.ref 45), some (.int q)]) pf_X6_answer ok_X6_answer rfl rfl ?_
  refine ev_iload_n rfl rfl rfl ?_
  refine ev_if_ne rfl rfl (fun c_1 => ?_) (fun c_1 => ?_)
  · refine ev_iload_n rfl rfl rfl ?_
    refine ev_iconst (v := 1) rfl rfl (by decide) ?_
    refine ev_icmp_ne rfl rfl (fun c_11 => ?_) (fun c_11 => ?_)
    · refine ev_iload_n rfl rfl rfl ?_
      refine ev_iconst (v := 2) rfl rfl (by decide) ?_
      refine ev_icmp_ne rfl rfl (fun c_34 => ?_) (fun c_34 => ?_)
      · refine ev_aload_n rfl rfl rfl ?_
        refine ev_getR rfl rfl fl_X6_28 rfl rfl rfl rfl ?_
        refine ev_iload_n rfl rfl rfl ?_
        refine ev_bipush (v := 20) rfl rfl (by decide) ?_
        refine ev_isub rfl rfl ?_
        refine ev_iald rfl rfl rfl ((z_q20 hq c_1 c_11 c_34).vp (by decide) (by decide)) rfl ?_
        exact ev_iret rfl rfl rfl (⟨congrArg (fun z => some (Value.int z)) (by simp only [r_ans, if_neg c_1, if_neg c_11, if_neg c_34]), rfl, rfl⟩)
      · refine ev_aload_n rfl rfl rfl ?_
        refine ev_V0D rfl rfl lk_X6_92 vt_X6_crackedBits rfl rfl rfl rfl rfl (c_cbt L b h) ?_
        refine ev_goto rfl rfl ?_
        exact ev_iret rfl rfl rfl (⟨congrArg (fun z => some (Value.int z)) (by simp only [r_ans, if_neg c_1, if_neg c_11, if_pos c_34]), rfl, rfl⟩)
    · refine ev_aload_n rfl rfl rfl ?_
      refine ev_getI rfl rfl fl_X6_34 rfl rfl rfl ?_
      refine ev_iconst (v := (-1)) rfl rfl (by decide) ?_
      refine ev_icmp_ne rfl rfl (fun c_19 => ?_) (fun c_19 => ?_)
      · refine ev_aload_n rfl rfl rfl ?_
        refine ev_getI rfl rfl fl_X6_34 rfl rfl rfl ?_
        exact ev_iret rfl rfl rfl (⟨congrArg (fun z => some (Value.int z)) (by simp only [r_ans, if_neg c_1, if_pos c_11, if_neg c_19]), rfl, rfl⟩)
      · refine ev_bipush (v := (-4)) rfl rfl (by decide) ?_
        refine ev_goto rfl rfl ?_
        exact ev_iret rfl rfl rfl (⟨congrArg (fun z => some (Value.int z)) (by simp only [r_ans, if_neg c_1, if_pos c_11, if_pos c_19]), rfl, rfl⟩)
  · refine ev_aload_n rfl rfl rfl ?_
    refine ev_getI rfl rfl fl_X6_31 rfl rfl rfl ?_
    exact ev_iret rfl rfl rfl (⟨congrArg (fun z => some (Value.int z)) (by simp only [r_ans, if_pos c_1]), rfl, rfl⟩)

