theorem EvD.ix {mi : MI} {args : List Value} {G : Geo} {h h1 : Hp} {r : Int32} {W : List (Nat × Nat)} (k : EvD mi args G h r h1) (hJ : JW W h h1) : EvI mi args G h (fun r' z => r' = r ∧ z = h1) W := EvM.mono k (fun v G' h' q => by
  obtain ⟨rfl, rfl, rfl⟩ := q
  exact ⟨⟨_, rfl, rfl, rfl⟩, rfl, hJ⟩)
theorem B.nI {x : Int32} {u : Nat} (p : B x 0 (u : Int)) : x = nI x.toNatClampNeg ∧ x.toNatClampNeg ≤ u := ⟨p.nat.1, by have := p.nat.2; have := p.2; omega⟩
theorem z_wi_has {q n : Int32} (hn : B n 0 2147483647) : z_wi q 0 (n - 1) = z_has q n := by
  unfold z_wi z_has
  by_cases c : q < 0
  · rw [if_pos c, if_pos c]
  · rw [if_neg c, if_neg c]
    have e1 : (1 : Int32).toInt = 1 := by decide
    have h1 := hn.1
    have h2 := hn.2
    have e := w_sub (x := n) (y := 1) (by omega) (by omega)
    have e2 : (n - 1 < q) ↔ n ≤ q := by
      rw [Int32.lt_iff_toInt_lt, Int32.le_iff_toInt_le, e, e1]
      omega
    by_cases c2 : n ≤ q
    · rw [if_pos c2, if_pos (e2.mpr c2)]
    · rw [if_neg c2, if_neg (fun z => c2 (e2.mp z))]

set_option maxRecDepth 100000 in
set_option maxHeartbeats 4000000 in
theorem l_msheetE (L : Nat) (b : Bool) (h : Hp) (k : Nat) (hk : k < 4) (l n : Int32) : ∀ t i : Nat, i + t = 60 → EvQ mi_X10_sheet 40 [some (.ref 63), some (.int (nI k)), some (.int l), some (.int n), some (.int (nI i))] [] (G0 L b) (k_cl h k i) 0 0 (fun v G' h' => v = some (.int 1) ∧ G' = G0 L b ∧ h' = k_cl h k 60) := by
  intro t
  induction t with
  | zero =>
    intro i hi
    have hi2 : i = 60 := by omega
    subst hi2
    refine ev_iload rfl rfl rfl ?_
    refine ev_bipush (v := 60) rfl rfl (by decide) ?_
    refine ev_icmp_ge rfl rfl (fun c_44 => ?_) (fun z_ => absurd (show (60 : Int32) ≤ nI 60 by decide) z_)
    refine ev_iconst (v := 1) rfl rfl (by decide) ?_
    exact ev_iret rfl rfl rfl (⟨rfl, rfl, rfl⟩)
  | succ t ih =>
    intro i hi
    refine ev_iload rfl rfl rfl ?_
    refine ev_bipush (v := 60) rfl rfl (by decide) ?_
    refine ev_icmp_ge rfl rfl (fun z_ => absurd z_ (show ¬ nI 60 ≤ nI i from nI_ge (by omega) (by omega))) (fun c_44 => ?_)
    refine ev_aload_n rfl rfl rfl ?_
    refine ev_getR rfl rfl fl_X10_118 rfl rfl rfl rfl ?_
    refine ev_bipush (v := 60) rfl rfl (by decide) ?_
    refine ev_iload_n rfl rfl rfl ?_
    refine ev_imul rfl rfl ?_
    refine ev_iload rfl rfl rfl ?_
    refine ev_iadd rfl rfl ?_
    refine ev_iconst (v := 0) rfl rfl (by decide) ?_
    refine ev_iast (j := 60 * k + i) rfl rfl rfl rfl (by rw [show (60 : Int32) * nI k = nI (60 * k) from nI_mul 60 k, nI_add]; exact vp_in_nI (by omega) (by decide)) (by rw [show (60 : Int32) * nI k = nI (60 * k) from nI_mul 60 k, nI_add]; exact nI_clamp (by omega)) ?_
    refine ev_iinc (y := 1) rfl rfl rfl (by decide) rfl rfl ?_
    dsimp only [List.set]
    refine ev_goto rfl rfl ?_
    have z_ := ih (i + 1) (by omega)
    simp only [k_cl] at z_
    rw [nI_1 i]
    exact z_

def rmSh (k l n : Int32) : Int32 := if z_sht k l = 0 then -1 else if n ≤ 60 then (if 0 ≤ n then 1 else -14) else -1
def kmSh (h : Hp) (k l n : Int32) : Hp := if z_sht k l = 0 then h else if n ≤ 60 then (if 0 ≤ n then k_cl (ev_set (ev_set h 92 k.toNatClampNeg l) 93 k.toNatClampNeg n) k.toNatClampNeg 60 else h) else h

set_option maxRecDepth 100000 in
set_option maxHeartbeats 4000000 in
theorem c_msheet (L : Nat) (b : Bool) (h : Hp) (k l n : Int32) : EvD mi_X10_sheet [.ref 63, .int k, .int l, .int n] (G0 L b) h (rmSh k l n) (kmSh h k l n) := by
  refine EvD.of (lo := [some (.ref 63), some (.int k), some (.int l), some (.int n), none]) pf_X10_sheet ok_X10_sheet rfl rfl ?_
  refine ev_iload_n rfl rfl rfl ?_
  refine ev_iload_n rfl rfl rfl ?_
  refine ev_S2D rfl rfl lk_X10_335 st_X10_isSheet rfl rfl (c_isSheet _ _ _ _) ?_
  refine ev_if_eq rfl rfl (fun c_5 => ?_) (fun c_5 => ?_)
  · refine ev_iconst (v := (-1)) rfl rfl (by decide) ?_
    exact ev_iret rfl rfl rfl (⟨congrArg (fun z => some (Value.int z)) (by simp only [rmSh, if_pos c_5]), rfl, by simp only [kmSh, if_pos c_5]⟩)
  · refine ev_iload_n rfl rfl rfl ?_
    refine ev_bipush (v := 60) rfl rfl (by decide) ?_
    refine ev_icmp_le rfl rfl (fun c_11 => ?_) (fun c_11 => ?_)
    · refine ev_iload_n rfl rfl rfl ?_
      refine ev_if_ge rfl rfl (fun c_17 => ?_) (fun c_17 => ?_)
      · obtain ⟨j, hj, rfl⟩ := z_sht_k c_5
        have ej := nI_clamp (show j < 2 ^ 31 by omega)
        refine ev_aload_n rfl rfl rfl ?_
        refine ev_getR rfl rfl fl_X10_112 rfl rfl rfl rfl ?_
        refine ev_iload_n rfl rfl rfl ?_
        refine ev_iload_n rfl rfl rfl ?_
        refine ev_iast rfl rfl rfl rfl (vp_in_nI (by omega) (by decide)) (nI_clamp (by omega)) ?_
        refine ev_aload_n rfl rfl rfl ?_
        refine ev_getR rfl rfl fl_X10_115 rfl rfl rfl rfl ?_
        refine ev_iload_n rfl rfl rfl ?_
        refine ev_iload_n rfl rfl rfl ?_
        refine ev_iast rfl rfl rfl rfl (vp_in_nI (by omega) (by decide)) (nI_clamp (by omega)) ?_
        refine ev_iconst (v := 0) rfl rfl (by decide) ?_
        refine ev_istore rfl rfl rfl rfl ?_
        dsimp only [List.set]
        refine EvQ.mono (l_msheetE L b _ j hj l n 60 0 (by omega)) (Nat.le_refl _) (Nat.le_refl _) ?_
        rintro v G' h' ⟨rfl, rfl, rfl⟩
        exact ⟨congrArg (fun z => some (Value.int z)) (by simp only [rmSh, if_neg c_5, if_pos c_11, if_pos c_17]), rfl, by first | (simp only [kmSh, if_neg c_5, if_pos c_11, if_pos c_17, ej]; done) | (simp only [kmSh, if_neg c_5, if_pos c_11, if_pos c_17, ej]; rfl)⟩
      · refine ev_bipush (v := (-14)) rfl rfl (by decide) ?_
        exact ev_iret rfl rfl rfl (⟨congrArg (fun z => some (Value.int z)) (by simp only [rmSh, if_neg c_5, if_pos c_11, if_neg c_17]), rfl, by simp only [kmSh, if_neg c_5, if_pos c_11, if_neg c_17]⟩)
    · refine ev_iconst (v := (-1)) rfl rfl (by decide) ?_
      exact ev_iret rfl rfl rfl (⟨congrArg (fun z => some (Value.int z)) (by simp only [rmSh, if_neg c_5, if_neg c_11]), rfl, by simp only [kmSh, if_neg c_5, if_neg c_11]⟩)

def rmLy (h : Hp) (k i : Int32) : Int32 := if z_sht k 0 = 0 then -1 else if h 92 k.toNatClampNeg = -4 then -11 else if z_has i (h 93 k.toNatClampNeg) = 0 then -12 else 1
def kmLy (h : Hp) (k i v : Int32) : Hp := if z_sht k 0 = 0 then h else if h 92 k.toNatClampNeg = -4 then h else if z_has i (h 93 k.toNatClampNeg) = 0 then h else ev_set h 94 (60 * k.toNatClampNeg + i.toNatClampNeg) (z_cut (h 92 k.toNatClampNeg) v)

set_option maxRecDepth 100000 in
set_option maxHeartbeats 4000000 in
theorem c_mlay (L : Nat) (b : Bool) (h : Hp) (hB : Bx h) (k i v : Int32) : EvD mi_X10_lay [.ref 63, .int k, .int i, .int v] (G0 L b) h (rmLy h k i) (kmLy h k i v) := by
  refine EvD.of (lo := [some (.ref 63), some (.int k), some (.int i), some (.int v)]) pf_X10_lay ok_X10_lay rfl rfl ?_
  refine ev_iload_n rfl rfl rfl ?_
  refine ev_iconst (v := 0) rfl rfl (by decide) ?_
  refine ev_S2D rfl rfl lk_X10_335 st_X10_isSheet rfl rfl (c_isSheet _ _ _ _) ?_
  refine ev_if_ne rfl rfl (fun c_5 => ?_) (fun c_5 => ?_)
  · obtain ⟨j, hj, rfl⟩ := z_sht_k c_5
    have ej := nI_clamp (show j < 2 ^ 31 by omega)
    refine ev_aload_n rfl rfl rfl ?_
    refine ev_getR rfl rfl fl_X10_112 rfl rfl rfl rfl ?_
    refine ev_iload_n rfl rfl rfl ?_
    refine ev_iald rfl rfl rfl (vp_in_nI (by omega) (by decide)) (nI_clamp (by omega)) ?_
    refine ev_bipush (v := (-4)) rfl rfl (by decide) ?_
    refine ev_icmp_ne rfl rfl (fun c_18 => ?_) (fun c_18 => ?_)
    · refine ev_iload_n rfl rfl rfl ?_
      refine ev_i2l rfl rfl ?_
      refine ev_lconst (v := 0) rfl rfl rfl ?_
      refine ev_aload_n rfl rfl rfl ?_
      refine ev_getR rfl rfl fl_X10_115 rfl rfl rfl rfl ?_
      refine ev_iload_n rfl rfl rfl ?_
      refine ev_iald rfl rfl rfl (vp_in_nI (by omega) (by decide)) (nI_clamp (by omega)) ?_
      refine ev_iconst (v := 1) rfl rfl (by decide) ?_
      refine ev_isub rfl rfl ?_
      refine ev_i2l rfl rfl ?_
      refine ev_S3D rfl rfl lk_X10_124 st_X10_in rfl rfl (c_inw _ _ _ (0) (h 93 j - 1) (by decide) rfl) ?_
      rw [z_wi_has ((show B (h 93 j) 0 60 from hB 93 j).mono (by decide) (by decide))]
      refine ev_if_ne rfl rfl (fun c_39 => ?_) (fun c_39 => ?_)
      · obtain ⟨t, ht, rfl⟩ := z_hask (B.nI (u := 60) (hB 93 j)).1 (B.nI (u := 60) (hB 93 j)).2 (by decide) c_39
        have ht2 := (B.nI (u := 60) (hB 93 j)).2
        have et := nI_clamp (show t < 2 ^ 31 by omega)
        refine ev_aload_n rfl rfl rfl ?_
        refine ev_getR rfl rfl fl_X10_118 rfl rfl rfl rfl ?_
        refine ev_bipush (v := 60) rfl rfl (by decide) ?_
        refine ev_iload_n rfl rfl rfl ?_
        refine ev_imul rfl rfl ?_
        refine ev_iload_n rfl rfl rfl ?_
        refine ev_iadd rfl rfl ?_
        refine ev_aload_n rfl rfl rfl ?_
        refine ev_getR rfl rfl fl_X10_112 rfl rfl rfl rfl ?_
        refine ev_iload_n rfl rfl rfl ?_
        refine ev_iald rfl rfl rfl (vp_in_nI (by omega) (by decide)) (nI_clamp (by omega)) ?_
        refine ev_if_ne rfl rfl (fun c_61 => ?_) (fun c_61 => ?_)
        · refine ev_aload_n rfl rfl rfl ?_
          refine ev_getR rfl rfl fl_X10_112 rfl rfl rfl rfl ?_
          refine ev_iload_n rfl rfl rfl ?_
          refine ev_iald rfl rfl rfl (vp_in_nI (by omega) (by decide)) (nI_clamp (by omega)) ?_
          refine ev_iconst (v := 1) rfl rfl (by decide) ?_
          refine ev_icmp_ne rfl rfl (fun c_76 => ?_) (fun c_76 => ?_)
          · refine ev_iload_n rfl rfl rfl ?_
            refine ev_iast (j := 60 * j + t) rfl rfl rfl rfl (by rw [show (60 : Int32) * nI j = nI (60 * j) from nI_mul 60 j, nI_add]; exact vp_in_nI (by omega) (by decide)) (by rw [show (60 : Int32) * nI j = nI (60 * j) from nI_mul 60 j, nI_add]; exact nI_clamp (by omega)) ?_
            refine ev_iconst (v := 1) rfl rfl (by decide) ?_
            exact ev_iret rfl rfl rfl (⟨congrArg (fun z => some (Value.int z)) (by simp only [rmLy, if_neg c_5, if_neg c_18, if_neg c_39, if_neg c_61, if_neg c_76, ej]), rfl, by simp only [kmLy, z_cut, if_neg c_5, if_neg c_18, if_neg c_39, if_neg c_61, if_neg c_76, ej, et]⟩)
          · refine ev_iload_n rfl rfl rfl ?_
            refine ev_i2s rfl rfl ?_
            refine ev_goto rfl rfl ?_
            refine ev_iast (j := 60 * j + t) rfl rfl rfl rfl (by rw [show (60 : Int32) * nI j = nI (60 * j) from nI_mul 60 j, nI_add]; exact vp_in_nI (by omega) (by decide)) (by rw [show (60 : Int32) * nI j = nI (60 * j) from nI_mul 60 j, nI_add]; exact nI_clamp (by omega)) ?_
            refine ev_iconst (v := 1) rfl rfl (by decide) ?_
            exact ev_iret rfl rfl rfl (⟨congrArg (fun z => some (Value.int z)) (by simp only [rmLy, if_neg c_5, if_neg c_18, if_neg c_39, if_neg c_61, if_pos c_76, ej]), rfl, by simp only [kmLy, z_cut, if_neg c_5, if_neg c_18, if_neg c_39, if_neg c_61, if_pos c_76, ej, et]⟩)
        · refine ev_iload_n rfl rfl rfl ?_
          refine ev_i2b rfl rfl ?_
          refine ev_goto rfl rfl ?_
          refine ev_iast (j := 60 * j + t) rfl rfl rfl rfl (by rw [show (60 : Int32) * nI j = nI (60 * j) from nI_mul 60 j, nI_add]; exact vp_in_nI (by omega) (by decide)) (by rw [show (60 : Int32) * nI j = nI (60 * j) from nI_mul 60 j, nI_add]; exact nI_clamp (by omega)) ?_
          refine ev_iconst (v := 1) rfl rfl (by decide) ?_
          exact ev_iret rfl rfl rfl (⟨congrArg (fun z => some (Value.int z)) (by simp only [rmLy, if_neg c_5, if_neg c_18, if_neg c_39, if_pos c_61, ej]), rfl, by simp only [kmLy, z_cut, if_neg c_5, if_neg c_18, if_neg c_39, if_pos c_61, ej, et]⟩)
      · refine ev_bipush (v := (-12)) rfl rfl (by decide) ?_
        exact ev_iret rfl rfl rfl (⟨congrArg (fun z => some (Value.int z)) (by simp only [rmLy, if_neg c_5, if_neg c_18, if_pos c_39, ej]), rfl, by simp only [kmLy, if_neg c_5, if_neg c_18, if_pos c_39, ej]⟩)
    · refine ev_bipush (v := (-11)) rfl rfl (by decide) ?_
      exact ev_iret rfl rfl rfl (⟨congrArg (fun z => some (Value.int z)) (by simp only [rmLy, if_neg c_5, if_pos c_18, ej]), rfl, by simp only [kmLy, if_neg c_5, if_pos c_18, ej]⟩)
  · refine ev_iconst (v := (-1)) rfl rfl (by decide) ?_
    exact ev_iret rfl rfl rfl (⟨congrArg (fun z => some (Value.int z)) (by simp only [rmLy, if_pos c_5]), rfl, by simp only [kmLy, if_pos c_5]⟩)

/-- the sheets are the same on both sides -/
def RSh (h : Hp) : Prop := ∀ k, k < 4 → (h 62 k = -1 ↔ h 92 k = -4) ∧ (¬ h 62 k = -1 → h 62 k = h 93 k ∧ h 61 k = h 92 k) ∧ ∀ i, i < 60 → h (57 + k) i = h 94 (60 * k + i)
theorem k_cl_ne {h : Hp} {k i j : Nat} (hi : i ≠ 94) : ∀ t, k_cl h k t i j = h i j
  | 0 => rfl
  | t + 1 => by unfold k_cl; rw [ev_rd2 hi]; exact k_cl_ne hi t
theorem k_cl_out {h : Hp} {k j : Nat} : ∀ t, j < 60 * k ∨ 60 * k + t ≤ j → k_cl h k t 94 j = h 94 j
  | 0, _ => rfl
  | t + 1, q => by unfold k_cl; rw [ev_rd3 (by omega)]; exact k_cl_out t (by omega)
theorem k_cl_in {h : Hp} {k j : Nat} : ∀ t, 60 * k ≤ j → j < 60 * k + t → k_cl h k t 94 j = 0
  | 0, h1, h2 => absurd h2 (by omega)
  | t + 1, h1, h2 => by
    unfold k_cl
    by_cases e : j = 60 * k + t
    · rw [e]; exact ev_rd1 _ _ _ _
    · rw [ev_rd3 e]; exact k_cl_in t h1 (by omega)
theorem h_fl_in {h : Hp} {a n j : Nat} {x : Int32} (hj : j < n) : h_fl h a x n a j = x := if_pos ⟨rfl, hj⟩
theorem jw_fl {W : List (Nat × Nat)} {h : Hp} (hB : Bx h) (a m : Nat) (hb : ∀ j, B 0 (bx a j).1 (bx a j).2) (hw : ∀ j, wm W a j = true) : JW W h (h_fl h a 0 m) := by
  refine ⟨fun i j => ?_, fun i j q => ?_⟩
  · unfold h_fl
    split
    · rename_i q; rw [q.1]; exact hb j
    · exact hB i j
  · unfold h_fl
    refine if_neg (fun z => ?_)
    rw [z.1, hw j] at q
    cases q
theorem jw_cl {W : List (Nat × Nat)} {h0 h : Hp} (hJ : JW W h0 h) (hw : ∀ j, wm W 94 j = true) (k : Nat) : ∀ t, JW W h0 (k_cl h k t)
  | 0 => hJ
  | t + 1 => (jw_cl hJ hw k t).set (hw _) (by decide : B 0 (-2147483648) 2147483647)
theorem z_hs4 {h : Hp} (hB : Bx h) : ∀ j, j < 4 → ∃ z, z ≤ 60 ∧ (h 62 j = -1 ∨ h 62 j = nI z) := fun j _ => by
  have p5 : B (h 62 j) (-1) 60 := hB 62 j
  by_cases e : h 62 j = -1
  · exact ⟨0, by omega, Or.inl e⟩
  · have p6 : B (h 62 j) 0 60 := R_neL p5 (by decide : B (-1) (-1) (-1)) e (by decide)
    exact ⟨_, (B.nI (u := 60) p6).2, Or.inr (B.nI (u := 60) p6).1⟩
theorem jw_renew {h : Hp} (hB : Bx h) (j : Nat) (hj : j < 4) (l n : Int32) (hn : B n 0 60) : JW [(57, 999), (58, 999), (59, 999), (60, 999), (61, 999), (62, 999)] h (k_renew h j l n) := by
  unfold k_renew
  refine ((JW.set ?_ rfl (B.any _)).set rfl (show B n (-1) 60 from hn.mono (by decide) (by decide)))
  rcases (show j = 0 ∨ j = 1 ∨ j = 2 ∨ j = 3 by omega) with rfl | rfl | rfl | rfl <;> exact jw_fl hB _ _ (fun _ => (by decide : B 0 (-2147483648) 2147483647)) (fun _ => rfl)
theorem w_sheetZ (L : Nat) (b : Bool) (h : Hp) (hB : Bx h) (k l n : Int32) : EvI mi_X9_sheet [.ref 1, .int k, .int l, .int n] (G0 L b) h (fun r z => r = r_sheet k l n ∧ z = k_sheet h k l n) [(57, 999), (58, 999), (59, 999), (60, 999), (61, 999), (62, 999)] := by
  refine (x_sheet L b h k l n).ix ?_
  unfold k_sheet
  split
  · exact JW.refl hB
  · rename_i q0
    split
    · exact JW.refl hB
    · split
      · rename_i q1 q2
        split
        · rename_i q3
          obtain ⟨j, hj, rfl⟩ := z_hask (x := 4) (m := 4) (N := 4) rfl (Nat.le_refl _) (by decide) q0
          rw [nI_clamp (show j < 2 ^ 31 by omega)]
          have w1 := w_le q2
          have w2 := w_le q3
          have e0 : (0 : Int32).toInt = 0 := by decide
          have e6 : (60 : Int32).toInt = 60 := by decide
          exact jw_renew hB j hj l n ⟨by omega, by omega⟩
        · exact JW.refl hB
      · exact JW.refl hB
theorem w_msheetZ (L : Nat) (b : Bool) (h : Hp) (hB : Bx h) (k l n : Int32) : EvI mi_X10_sheet [.ref 63, .int k, .int l, .int n] (G0 L b) h (fun r z => r = rmSh k l n ∧ z = kmSh h k l n) [(92, 999), (93, 999), (94, 999)] := by
  refine (c_msheet L b h k l n).ix ?_
  unfold kmSh
  split
  · exact JW.refl hB
  · split
    · rename_i q2
      split
      · rename_i q3
        have w1 := w_le q2
        have w2 := w_le q3
        have e0 : (0 : Int32).toInt = 0 := by decide
        have e6 : (60 : Int32).toInt = 60 := by decide
        have bn : B n 0 60 := ⟨by omega, by omega⟩
        exact jw_cl (((JW.refl hB).set rfl (B.any _)).set rfl bn) (fun _ => rfl) _ 60
      · exact JW.refl hB
    · exact JW.refl hB
theorem z_sht_has (k l : Int32) : z_sht k l = (if z_has k 4 = 0 then 0 else if z_wi l 0 2 = 0 then 0 else 1) := by
  have e : z_wi k 0 3 = z_has k 4 := z_wi_has (q := k) (n := 4) (by decide)
  unfold z_sht
  rw [e]
theorem rel_sheet {h : Hp} (_ : Bx h) (hR : RSh h) (k l n : Int32) : r_sheet k l n = rmSh k l n ∧ RSh (kmSh (k_sheet h k l n) k l n) := by
  unfold r_sheet rmSh kmSh k_sheet
  rw [z_sht_has]
  by_cases q0 : z_has k 4 = 0
  · simp only [if_pos q0, if_true]; exact ⟨trivial, hR⟩
  · simp only [if_neg q0]
    by_cases q1 : z_wi l 0 2 = 0
    · simp only [if_pos q1, if_true]; exact ⟨trivial, hR⟩
    · simp only [if_neg q1, if_neg (show ¬ (1 : Int32) = 0 by decide)]
      by_cases q2 : n ≤ 60
      · simp only [if_pos q2]
        by_cases q3 : 0 ≤ n
        · simp only [if_pos q3]
          obtain ⟨j, hj, rfl⟩ := z_hask (x := 4) (m := 4) (N := 4) rfl (Nat.le_refl _) (by decide) q0
          rw [nI_clamp (show j < 2 ^ 31 by omega)]
          refine ⟨trivial, fun k' hk' => ?_⟩
          have bl : B l 0 2 := z_wi_B (by decide : B 0 0 0) (by decide : B 2 2 2) q1
          have w2 := w_le q3
          have e0 : (0 : Int32).toInt = 0 := by decide
          have nl : ¬ l = -4 := D_ne bl (by decide : B (-4) (-4) (-4)) (by decide)
          have nn : ¬ n = -1 := fun e => by rw [e] at q3; exact absurd q3 (by decide)
          unfold k_renew
          by_cases e : k' = j
          · subst e
            refine ⟨?_, ?_, fun i hi => ?_⟩
            · simp (disch := omega) only [k_cl_ne, ev_rd1, ev_rd2]
              exact ⟨fun z => absurd z nn, fun z => absurd z nl⟩
            · intro _
              simp (disch := omega) only [k_cl_ne, ev_rd1, ev_rd2]
              exact ⟨trivial, trivial⟩
            · rw [k_cl_in 60 (by omega) (by omega)]
              simp (disch := omega) only [k_cl_ne, ev_rd2, h_fl_in]
          · obtain ⟨a1, a2, a3⟩ := hR k' hk'
            refine ⟨?_, ?_, fun i hi => ?_⟩
            · simp (disch := omega) only [k_cl_ne, ev_rd2, ev_rd3, h_fl_ne]
              exact a1
            · simp (disch := omega) only [k_cl_ne, ev_rd2, ev_rd3, h_fl_ne]
              exact a2
            · rw [k_cl_out 60 (by omega)]
              simp (disch := omega) only [k_cl_ne, ev_rd2, ev_rd3, h_fl_ne]
              exact a3 i hi
        · simp only [if_neg q3]; exact ⟨trivial, hR⟩
      · simp only [if_neg q2]; exact ⟨trivial, hR⟩
theorem w_layZ (L : Nat) (b : Bool) (h : Hp) (hB : Bx h) (k i v : Int32) : EvI mi_X9_lay [.ref 1, .int k, .int i, .int v] (G0 L b) h (fun r z => r = r_lay h k i ∧ z = k_lay h k i v) [(57, 999), (58, 999), (59, 999), (60, 999)] := by
  refine (x_lay L b h (z_hs4 hB) k i v).ix ?_
  unfold k_lay
  split
  · exact JW.refl hB
  · rename_i q0
    split
    · split
      · exact JW.refl hB
      · obtain ⟨j, hj, rfl⟩ := z_hask (x := 4) (m := 4) (N := 4) rfl (Nat.le_refl _) (by decide) q0
        rw [nI_clamp (show j < 2 ^ 31 by omega)]
        rcases (show j = 0 ∨ j = 1 ∨ j = 2 ∨ j = 3 by omega) with rfl | rfl | rfl | rfl <;> exact (JW.refl hB).set rfl (B.any _)
    · exact JW.refl hB
theorem w_mlayZ (L : Nat) (b : Bool) (h : Hp) (hB : Bx h) (k i v : Int32) : EvI mi_X10_lay [.ref 63, .int k, .int i, .int v] (G0 L b) h (fun r z => r = rmLy h k i ∧ z = kmLy h k i v) [(94, 999)] := by
  refine (c_mlay L b h hB k i v).ix ?_
  unfold kmLy
  split
  · exact JW.refl hB
  · split
    · exact JW.refl hB
    · split
      · exact JW.refl hB
      · exact (JW.refl hB).set rfl (B.any _)
theorem rel_lay {h : Hp} (hB : Bx h) (hR : RSh h) (k i v : Int32) : r_lay h k i = rmLy (k_lay h k i v) k i ∧ RSh (kmLy (k_lay h k i v) k i v) := by
  unfold r_lay rmLy kmLy
  rw [z_sht_has]
  by_cases q0 : z_has k 4 = 0
  · unfold k_lay
    simp only [if_pos q0, if_true]; exact ⟨trivial, hR⟩
  · obtain ⟨j, hj, rfl⟩ := z_hask (x := 4) (m := 4) (N := 4) rfl (Nat.le_refl _) (by decide) q0
    have ej := nI_clamp (show j < 2 ^ 31 by omega)
    obtain ⟨a1, a2, a3⟩ := hR j hj
    have z2 : ¬ z_wi 0 0 2 = 0 := by decide
    unfold k_lay
    simp only [if_neg q0, if_neg z2, ej, if_neg (show ¬ (1 : Int32) = 0 by decide)]
    by_cases q1 : h 62 j = -1
    · have e1 : ¬ z_noth (h 62 j) = 0 := by unfold z_noth; rw [if_pos q1]; decide
      simp only [if_neg e1, if_pos (a1.mp q1)]
      exact ⟨trivial, hR⟩
    · have e1 : z_noth (h 62 j) = 0 := by unfold z_noth; rw [if_neg q1]
      have q2 : ¬ h 92 j = -4 := fun z => q1 (a1.mpr z)
      obtain ⟨b1, b2⟩ := a2 q1
      simp only [if_pos e1]
      by_cases q3 : z_has i (h 62 j) = 0
      · have q4 : z_has i (h 93 j) = 0 := by rw [← b1]; exact q3
        simp only [if_pos q3, if_neg q2, if_pos q4]
        exact ⟨trivial, hR⟩
      · have q4 : ¬ z_has i (h 93 j) = 0 := by rw [← b1]; exact q3
        simp only [if_neg q3]
        simp (disch := omega) only [ev_rd2]
        simp only [if_neg q2, if_neg q4]
        obtain ⟨t, ht, rfl⟩ := z_hask (B.nI (u := 60) (hB 93 j)).1 (B.nI (u := 60) (hB 93 j)).2 (by decide) q4
        have ht2 := (B.nI (u := 60) (hB 93 j)).2
        rw [nI_clamp (show t < 2 ^ 31 by omega), b2]
        refine ⟨trivial, fun k' hk' => ?_⟩
        obtain ⟨c1, c2, c3⟩ := hR k' hk'
        refine ⟨?_, ?_, fun i' hi' => ?_⟩
        · simp (disch := omega) only [ev_rd2]
          exact c1
        · simp (disch := omega) only [ev_rd2]
          exact c2
        · rw [ev_rd2 (show 57 + k' ≠ 94 by omega)]
          by_cases e : k' = j ∧ i' = t
          · obtain ⟨e2, e3⟩ := e
            subst e2
            subst e3
            rw [ev_rd1, ev_rd1]
          · by_cases e2 : k' = j
            · subst e2
              rw [ev_rd3 (fun z => e ⟨rfl, z⟩), ev_rd3 (by omega), ev_rd2 (by omega)]
              exact c3 i' hi'
            · rw [ev_rd2 (by omega), ev_rd3 (by omega), ev_rd2 (by omega)]
              exact c3 i' hi'

