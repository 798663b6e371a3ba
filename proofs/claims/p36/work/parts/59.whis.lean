theorem EvD.ix {mi : MI} {args : List Value} {G : Geo} {h h1 : Hp} {r : Int32} {W : List (Nat × Nat)} (k : EvD mi args G h r h1) (hJ : JW W h h1) : EvI mi args G h (fun r' z => r' = r ∧ z = h1) W := EvM.mono k (fun v G' h' q => by
  obtain ⟨rfl, rfl, rfl⟩ := q
  exact ⟨⟨_, rfl, rfl, rfl⟩, rfl, hJ⟩)
theorem B.nI {x : Int32} {u : Nat} (p : B x 0 (u : Int)) : x = nI x.toNatClampNeg ∧ x.toNatClampNeg ≤ u := ⟨p.nat.1, by have := p.nat.2; have := p.2; omega⟩
theorem z_wi_has {q n : Int32} (hn : B n 0 2147483647) : z_wi q 0 (n - 1) = z_has q n := by
  unfold z_wi z_has
  by_cases c : q < 0
  · rw [if_pos c, if_pos c]
  · rw [if_neg c, if_neg c]
    have e1 : (1 : Int32).toInt = 1 := by decide
    have h1 := hn.1
    have h2 := hn.2
    have e := w_sub (x := n) (y := 1) (by omega) (by omega)
    have e2 : (n - 1 < q) ↔ n ≤ q := by
      rw [Int32.lt_iff_toInt_lt, Int32.le_iff_toInt_le, e, e1]
      omega
    by_cases c2 : n ≤ q
    · rw [if_pos c2, if_pos (e2.mpr c2)]
    · rw [if_neg c2, if_neg (fun z => c2 (e2.mp z))]

set_option maxRecDepth 100000 in
set_option maxHeartbeats 4000000 in
theorem l_msheetE (L : Nat) (b : Bool) (h : Hp) (k : Nat) (hk : k < 4) (l n : Int32) : ∀ t i : Nat, i + t = 60 → EvQ mi_X10_sheet 40 [some (.ref 63), some (.int (nI k)), some (.int l), some (.int n), some (.int (nI i))] [] (G0 L b) (k_cl h k i) 0 0 (fun v G' h' => v = some (.int 1) ∧ G' = G0 L b ∧ h' = k_cl h k 60) := by
  intro t
  induction t with
  | zero =>
    intro i hi
    have hi2 : i = 60 := by omega
    subst hi2
    refine ev_iload rfl rfl rfl ?_
    refine ev_bipush (v := 60) rfl rfl (by decide) ?_
    refine ev_icmp_ge rfl rfl (fun c_44 => ?_) (fun z_ => absurd (show (60 : Int32) ≤ nI 60 by decide) z_)
    refine ev_iconst (v := 1) rfl rfl (by decide) ?_
    exact ev_iret rfl rfl rfl (⟨rfl, rfl, rfl⟩)
  | succ t ih =>
    intro i hi
    refine ev_iload rfl rfl rfl ?_
    refine ev_bipush (v := 60) rfl rfl (by decide) ?_
    refine ev_icmp_ge rfl rfl (fun z_ => absurd z_ (show ¬ nI 60 ≤ nI i from nI_ge (by omega) (by omega))) (fun c_44 => ?_)
    refine ev_aload_n rfl rfl rfl ?_
    refine ev_getR rfl rfl fl_X10_118 rfl rfl rfl rfl ?_
    refine ev_bipush (v := 60) rfl rfl (by decide) ?_
    refine ev_iload_n rfl rfl rfl ?_
    refine ev_imul rfl rfl ?_
    refine ev_iload rfl rfl rfl ?_
    refine ev_iadd rfl rfl ?_
    refine ev_iconst (v := 0) rfl rfl (by decide) ?_
    refine ev_iast (j := 60 * k + i) rfl rfl rfl rfl (by rw [show (60 : Int32) * nI k = nI (60 * k) from nI_mul 60 k, nI_add]; exact vp_in_nI (by omega) (by decide)) (by rw [show (60 : Int32) * nI k = nI (60 * k) from nI_mul 60 k, nI_add]; exact nI_clamp (by omega)) ?_
    refine ev_iinc (y := 1) rfl rfl rfl (by decide) rfl rfl ?_
    dsimp only [List.set]
    refine ev_goto rfl rfl ?_
    have z_ := ih (i + 1) (by omega)
    simp only [k_cl] at z_
    rw [nI_1 i]
    exact z_

def rmSh (k l n : Int32) : Int32 := if z_sht k l = 0 then -1 else if n ≤ 60 then (if 0 ≤ n then 1 else -14) else -1
def kmSh (h : Hp) (k l n : Int32) : Hp := if z_sht k l = 0 then h else if n ≤ 60 then (if 0 ≤ n then k_cl (ev_set (ev_set h 92 k.toNatClampNeg l) 93 k.toNatClampNeg n) k.toNatClampNeg 60 else h) else h

set_option maxRecDepth 100000 in
set_option maxHeartbeats 4000000 in
theorem c_msheet (L : Nat) (b : Bool) (h : Hp) (k l n : Int32) : EvD mi_X10_sheet [.ref 63, .int k, .int l, .int n] (G0 L b) h (rmSh k l n) (kmSh h k l n) := by
  refine EvD.of (lo := [some (.ref 63), some (.int k), some (.int l), some (.int n), none]) pf_X10_sheet ok_X10_sheet rfl rfl ?_
  refine ev_iload_n rfl rfl rfl ?_
  refine ev_iload_n rfl rfl rfl ?_
  refine ev_S2D rfl rfl lk_X10_335 st_X10_isSheet rfl rfl (c_isSheet _ _ _ _) ?_
  refine ev_if_eq rfl rfl (fun c_5 => ?_) (fun c_5 => ?_)
  · refine ev_iconst (v := (-1)) rfl rfl (by decide) ?_
    exact ev_iret rfl rfl rfl (⟨congrArg (fun z => some (Value.int z)) (by simp only [rmSh, if_pos c_5]), rfl, by simp only [kmSh, if_pos c_5]⟩)
  · refine ev_iload_n rfl rfl rfl ?_
    refine ev_bipush (v := 60) rfl rfl (by decide) ?_
    refine ev_icmp_le rfl rfl (fun c_11 => ?_) (fun c_11 => ?_)
    · refine ev_iload_n rfl rfl rfl ?_
      refine ev_if_ge rfl rfl (fun c_17 => ?_) (fun c_17 => ?_)
      · obtain ⟨j, hj, rfl⟩ := z_sht_k c_5
        have ej := nI_clamp (show j < 2 ^ 31 by omega)
        refine ev_aload_n rfl rfl rfl ?_
        refine ev_getR rfl rfl fl_X10_112 rfl rfl rfl rfl ?_
        refine ev_iload_n rfl rfl rfl ?_
        refine ev_iload_n rfl rfl rfl ?_
        refine ev_iast rfl rfl rfl rfl (vp_in_nI (by omega) (by decide)) (nI_clamp (by omega)) ?_
        refine ev_aload_n rfl rfl rfl ?_
        refine ev_getR rfl rfl fl_X10_115 rfl rfl rfl rfl ?_
        refine ev_iload_n rfl rfl rfl ?_
        refine ev_iload_n rfl rfl rfl ?_
        refine ev_iast rfl rfl rfl rfl (vp_in_nI (by omega) (by decide)) (nI_clamp (by omega)) ?_
        refine ev_iconst (v := 0) rfl rfl (by decide) ?_
        refine ev_istore rfl rfl rfl rfl ?_
        dsimp only [List.set]
        refine EvQ.mono (l_msheetE L b _ j hj l n 60 0 (by omega)) (Nat.le_refl _) (Nat.le_refl _) ?_
        rintro v G' h' ⟨rfl, rfl, rfl⟩
        exact ⟨congrArg (fun z => some (Value.int z)) (by simp only [rmSh, if_neg c_5, if_pos c_11, if_pos c_17]), rfl, by first | (simp only [kmSh, if_neg c_5, if_pos c_11, if_pos c_17, ej]; done) | (simp only [kmSh, if_neg c_5, if_pos c_11, if_pos c_17, ej]; rfl)⟩
      · refine ev_bipush (v := (-14)) rfl rfl (by decide) ?_
        exact ev_iret rfl rfl rfl (⟨congrArg (fun z => some (Value.int z)) (by simp only [rmSh, if_neg c_5, if_pos c_11, if_neg c_17]), rfl, by simp only [kmSh, if_neg c_5, if_pos c_11, if_neg c_17]⟩)
    · refine ev_iconst (v := (-1)) rfl rfl (by decide) ?_
      exact ev_iret rfl rfl rfl (⟨congrArg (fun z => some (Value.int z)) (by simp only [rmSh, if_neg c_5, if_neg c_11]), rfl, by simp only [kmSh, if_neg c_5, if_neg c_11]⟩)

def rmLy (h : Hp) (k i : Int32) : Int32 := if z_sht k 0 = 0 then -1 else if h 92 k.toNatClampNeg = -4 then -11 else if z_has i (h 93 k.toNatClampNeg) = 0 then -12 else 1
def kmLy (h : Hp) (k i v : Int32) : Hp := if z_sht k 0 = 0 then h else if h 92 k.toNatClampNeg = -4 then h else if z_has i (h 93 k.toNatClampNeg) = 0 then h else ev_set h 94 (60 * k.toNatClampNeg + i.toNatClampNeg) (z_cut (h 92 k.toNatClampNeg) v)

set_option maxRecDepth 100000 in
set_option maxHeartbeats 4000000 in
theorem c_mlay (L : Nat) (b : Bool) (h : Hp) (hB : Bx h) (k i v : Int32) : EvD mi_X10_lay [.ref 63, .int k, .int i, .int v] (G0 L b) h (rmLy h k i) (kmLy h k i v) := by
  refine EvD.of (lo := [some (.ref 63), some (.int k), some (.int i), some (.int v)]) pf_X10_lay ok_X10_lay rfl rfl ?_
  refine ev_iload_n rfl rfl rfl ?_
  refine ev_iconst (v := 0) rfl rfl (by decide) ?_
  refine ev_S2D rfl rfl lk_X10_335 st_X10_isSheet rfl rfl (c_isSheet _ _ _ _) ?_
  refine ev_if_ne rfl rfl (fun c_5 => ?_) (fun c_5 => ?_)
  · obtain ⟨j, hj, rfl⟩ := z_sht_k c_5
    have ej := nI_clamp (show j < 2 ^ 31 by omega)
    refine ev_aload_n rfl rfl rfl ?_
    refine ev_getR rfl rfl fl_X10_112 rfl rfl rfl rfl ?_
    refine ev_iload_n rfl rfl rfl ?_
    refine ev_iald rfl rfl rfl (vp_in_nI (by omega) (by decide)) (nI_clamp (by omega)) ?_
    refine ev_bipush (v := (-4)) rfl rfl (by decide) ?_
    refine ev_icmp_ne rfl rfl (fun c_18 => ?_) (fun c_18 => ?_)
    · refine ev_iload_n rfl rfl rfl ?_
      refine ev_i2l rfl rfl ?_
      refine ev_lconst (v := 0) rfl rfl rfl ?_
      refine ev_aload_n rfl rfl rfl ?_
      refine ev_getR rfl rfl fl_X10_115 rfl rfl rfl rfl ?_
      refine ev_iload_n rfl rfl rfl ?_
      refine ev_iald rfl rfl rfl (vp_in_nI (by omega) (by decide)) (nI_clamp (by omega)) ?_
      refine ev_iconst (v := 1) rfl rfl (by decide) ?_
      refine ev_isub rfl rfl ?_
      refine ev_i2l rfl rfl ?_
      refine ev_S3D rfl rfl lk_X10_124 st_X10_in rfl rfl (c_inw _ _ _ (0) (h 93 j - 1) (by decide) rfl) ?_
      rw [z_wi_has ((show B (h 93 j) 0 60 from hB 93 j).mono (by decide) (by decide))]
      refine ev_if_ne rfl rfl (fun c_39 => ?_) (fun c_39 => ?_)
      · obtain ⟨t, ht, rfl⟩ := z_hask (B.nI (u := 60) (hB 93 j)).1 (B.nI (u := 60) (hB 93 j)).2 (by decide) c_39
        have ht2 := (B.nI (u := 60) (hB 93 j)).2
        have et := nI_clamp (show t < 2 ^ 31 by omega)
        refine ev_aload_n rfl rfl rfl ?_
        refine ev_getR rfl rfl fl_X10_118 rfl rfl rfl rfl ?_
        refine ev_bipush (v := 60) rfl rfl (by decide) ?_
        refine ev_iload_n rfl rfl rfl ?_
        refine ev_imul rfl rfl ?_
        refine ev_iload_n rfl rfl rfl ?_
        refine ev_iadd rfl rfl ?_
        refine ev_aload_n rfl rfl rfl ?_
        refine ev_getR rfl rfl fl_X10_112 rfl rfl rfl rfl ?_
        refine ev_iload_n rfl rfl rfl ?_
        refine ev_iald rfl rfl rfl (vp_in_nI (by omega) (by decide)) (nI_clamp (by omega)) ?_
        refine ev_if_ne rfl rfl (fun c_61 => ?_) (fun c_61 => ?_)
        · refine ev_aload_n rfl rfl rfl ?_
          refine ev_getR rfl rfl fl_X10_112 rfl rfl rfl rfl ?_
          refine ev_iload_n rfl rfl rfl ?_
          refine ev_iald rfl rfl rfl (vp_in_nI (by omega) (by decide)) (nI_clamp (by omega)) ?_
          refine ev_iconst (v := 1) rfl rfl (by decide) ?_
          refine ev_icmp_ne rfl rfl (fun c_76 => ?_) (fun c_76 => ?_)
          · refine ev_iload_n rfl rfl rfl ?_
            refine ev_iast (j := 60 * j + t) rfl rfl rfl rfl (by rw [show (60 : Int32) * nI j = nI (60 * j) from nI_mul 60 j, nI_add]; exact vp_in_nI (by omega) (by decide)) (by rw [show (60 : Int32) * nI j = nI (60 * j) from nI_mul 60 j, nI_add]; exact nI_clamp (by omega)) ?_
            refine ev_iconst (v := 1) rfl rfl (by decide) ?_
            exact ev_iret rfl rfl rfl (⟨congrArg (fun z => some (Value.int z)) (by simp only [rmLy, if_neg c_5, if_neg c_18, if_neg c_39, if_neg c_61, if_neg c_76, ej]), rfl, by simp only [kmLy, z_cut, if_neg c_5, if_neg c_18, if_neg c_39, if_neg c_61, if_neg c_76, ej, et]⟩)
          · refine ev_iload_n rfl rfl rfl ?_
            refine ev_i2s rfl rfl ?_
            refine ev_goto rfl rfl ?_
            refine ev_iast (j := 60 * j + t) rfl rfl rfl rfl (by rw [show (60 : Int32) * nI j = nI (60 * j) from nI_mul 60 j, nI_add]; exact vp_in_nI (by omega) (by decide)) (by rw [show (60 : Int32) * nI j = nI (60 * j) from nI_mul 60 j, nI_add]; exact nI_clamp (by omega)) ?_
            refine ev_iconst (v := 1) rfl rfl (by decide) ?_
            exact ev_iret rfl rfl rfl (⟨congrArg (fun z => some (Value.int z)) (by simp only [rmLy, if_neg c_5, if_neg c_18, if_neg c_39, if_neg c_61, if_pos c_76, ej]), rfl, by simp only [kmLy, z_cut, if_neg c_5, if_neg c_18, if_neg c_39, if_neg c_61, if_pos c_76, ej, et]⟩)
        · refine ev_iload_n rfl rfl rfl ?_
          refine ev_i2b rfl rfl ?_
          refine ev_goto rfl rfl ?_
          refine ev_iast (j := 60 * j + t) rfl rfl rfl rfl (by rw [show (60 : Int32) * nI j = nI (60 * j) from nI_mul 60 j, nI_add]; exact vp_in_nI (by omega) (by decide)) (by rw [show (60 : Int32) * nI j = nI (60 * j) from nI_mul 60 j, nI_add]; exact nI_clamp (by omega)) ?_
          refine ev_iconst (v := 1) rfl rfl (by decide) ?_
          exact ev_iret rfl rfl rfl (⟨congrArg (fun z => some (Value.int z)) (by simp only [rmLy, if_neg c_5, if_neg c_18, if_neg c_39, if_pos c_61, ej]), rfl, by simp only [kmLy, z_cut, if_neg c_5, if_neg c_18, if_neg c_39, if_pos c_61, ej, et]⟩)
      · refine ev_bipush (v := (-12)) rfl rfl (by decide) ?_
        exact ev_iret rfl rfl rfl (⟨congrArg (fun z => some (Value.int z)) (by simp only [rmLy, if_neg c_5, if_neg c_18, if_pos c_39, ej]), rfl, by simp only [kmLy, if_neg c_5, if_neg c_18, if_pos c_39, ej]⟩)
    · refine ev_bipush (v := (-11)) rfl rfl (by decide) ?_
      exact ev_iret rfl rfl rfl (⟨congrArg (fun z => some (Value.int z)) (by simp only [rmLy, if_neg c_5, if_pos c_18, ej]), rfl, by simp only [kmLy, if_neg c_5, if_pos c_18, ej]⟩)
  · refine ev_iconst (v := (-1)) rfl rfl (by decide) ?_
    exact ev_iret rfl rfl rfl (⟨congrArg (fun z => some (Value.int z)) (by simp only [rmLy, if_pos c_5]), rfl, by simp only [kmLy, if_pos c_5]⟩)

/-- the sheets are the same on both sides -/
def RSh (h : Hp) : Prop := ∀ k, k < 4 → (h 62 k = -1 ↔ h 92 k = -4) ∧ (¬ h 62 k = -1 → h 62 k = h 93 k ∧ h 61 k = h 92 k) ∧ ∀ i, i < 60 → h (57 + k) i = h 94 (60 * k + i)
theorem k_cl_ne {h : Hp} {k i j : Nat} (hi : i ≠ 94) : ∀ t, k_cl h k t i j = h i j
  | 0 => rfl
  | t + 1 => by unfold k_cl; rw [ev_rd2 hi]; exact k_cl_ne hi t
theorem k_cl_out {h : Hp} {k j : Nat} : ∀ t, j < 60 * k ∨ 60 * k + t ≤ j → k_cl h k t 94 j = h 94 j
  | 0, _ => rfl
  | t + 1, q => by unfold k_cl; rw [ev_rd3 (by omega)]; exact k_cl_out t (by omega)
theorem k_cl_in {h : Hp} {k j : Nat} : ∀ t, 60 * k ≤ j → j < 60 * k + t → k_cl h k t 94 j = 0
  | 0, h1, h2 => absurd h2 (by omega)
  | t + 1, h1, h2 => by
    unfold k_cl
    by_cases e : j = 60 * k + t
    · rw [e]; exact ev_rd1 _ _ _ _
    · rw [ev_rd3 e]; exact k_cl_in t h1 (by omega)
theorem h_fl_in {h : Hp} {a n j : Nat} {x : Int32} (hj : j < n) : h_fl h a x n a j = x := if_pos ⟨rfl, hj⟩
theorem jw_fl {W : List (Nat × Nat)} {h : Hp} (hB : Bx h) (a m : Nat) (hb : ∀ j, B 0 (bx a j).1 (bx a j).2) (hw : ∀ j, wm W a j = true) : JW W h (h_fl h a 0 m) := by
  refine ⟨fun i j => ?_, fun i j q => ?_⟩
  · unfold h_fl
    split
    · rename_i q; rw [q.1]; exact hb j
    · exact hB i j
  · unfold h_fl
    refine if_neg (fun z => ?_)
    rw [z.1, hw j] at q
    cases q
theorem jw_cl {W : List (Nat × Nat)} {h0 h : Hp} (hJ : JW W h0 h) (hw : ∀ j, wm W 94 j = true) (k : Nat) : ∀ t, JW W h0 (k_cl h k t)
  | 0 => hJ
  | t + 1 => (jw_cl hJ hw k t).set (hw _) (by decide : B 0 (-2147483648) 2147483647)
theorem z_hs4 {h : Hp} (hB : Bx h) : ∀ j, j < 4 → ∃ z, z ≤ 60 ∧ (h 62 j = -1 ∨ h 62 j = nI z) := fun j _ => by
  have p5 : B (h 62 j) (-1) 60 := hB 62 j
  by_cases e : h 62 j = -1
  · exact ⟨0, by omega, Or.inl e⟩
  · have p6 : B (h 62 j) 0 60 := R_neL p5 (by decide : B (-1) (-1) (-1)) e (by decide)
    exact ⟨_, (B.nI (u := 60) p6).2, Or.inr (B.nI (u := 60) p6).1⟩
theorem jw_renew {h : Hp} (hB : Bx h) (j : Nat) (hj : j < 4) (l n : Int32) (hn : B n 0 60) : JW [(57, 999), (58, 999), (59, 999), (60, 999), (61, 999), (62, 999)] h (k_renew h j l n) := by
  unfold k_renew
  refine ((JW.set ?_ rfl (B.any _)).set rfl (show B n (-1) 60 from hn.mono (by decide) (by decide)))
  rcases (show j = 0 ∨ j = 1 ∨ j = 2 ∨ j = 3 by omega) with rfl | rfl | rfl | rfl <;> exact jw_fl hB _ _ (fun _ => (by decide : B 0 (-2147483648) 2147483647)) (fun _ => rfl)
theorem w_sheetZ (L : Nat) (b : Bool) (h : Hp) (hB : Bx h) (k l n : Int32) : EvI mi_X9_sheet [.ref 1, .int k, .int l, .int n] (G0 L b) h (fun r z => r = r_sheet k l n ∧ z = k_sheet h k l n) [(57, 999), (58, 999), (59, 999), (60, 999), (61, 999), (62, 999)] := by
  refine (x_sheet L b h k l n).ix ?_
  unfold k_sheet
  split
  · exact JW.refl hB
  · rename_i q0
    split
    · exact JW.refl hB
    · split
      · rename_i q1 q2
        split
        · rename_i q3
          obtain ⟨j, hj, rfl⟩ := z_hask (x := 4) (m := 4) (N := 4) rfl (Nat.le_refl _) (by decide) q0
          rw [nI_clamp (show j < 2 ^ 31 by omega)]
          have w1 := w_le q2
          have w2 := w_le q3
          have e0 : (0 : Int32).toInt = 0 := by decide
          have e6 : (60 : Int32).toInt = 60 := by decide
          exact jw_renew hB j hj l n ⟨by omega, by omega⟩
        · exact JW.refl hB
      · exact JW.refl hB
theorem w_msheetZ (L : Nat) (b : Bool) (h : Hp) (hB : Bx h) (k l n : Int32) : EvI mi_X10_sheet [.ref 63, .int k, .int l, .int n] (G0 L b) h (fun r z => r = rmSh k l n ∧ z = kmSh h k l n) [(92, 999), (93, 999), (94, 999)] := by
  refine (c_msheet L b h k l n).ix ?_
  unfold kmSh
  split
  · exact JW.refl hB
  · split
    · rename_i q2
      split
      · rename_i q3
        have w1 := w_le q2
        have w2 := w_le q3
        have e0 : (0 : Int32).toInt = 0 := by decide
        have e6 : (60 : Int32).toInt = 60 := by decide
        have bn : B n 0 60 := ⟨by omega, by omega⟩
        exact jw_cl (((JW.refl hB).set rfl (B.any _)).set rfl bn) (fun _ => rfl) _ 60
      · exact JW.refl hB
    · exact JW.refl hB
theorem z_sht_has (k l : Int32) : z_sht k l = (if z_has k 4 = 0 then 0 else if z_wi l 0 2 = 0 then 0 else 1) := by
  have e : z_wi k 0 3 = z_has k 4 := z_wi_has (q := k) (n := 4) (by decide)
  unfold z_sht
  rw [e]
theorem rel_sheet {h : Hp} (_ : Bx h) (hR : RSh h) (k l n : Int32) : r_sheet k l n = rmSh k l n ∧ RSh (kmSh (k_sheet h k l n) k l n) := by
  unfold r_sheet rmSh kmSh k_sheet
  rw [z_sht_has]
  by_cases q0 : z_has k 4 = 0
  · simp only [if_pos q0, if_true]; exact ⟨trivial, hR⟩
  · simp only [if_neg q0]
    by_cases q1 : z_wi l 0 2 = 0
    · simp only [if_pos q1, if_true]; exact ⟨trivial, hR⟩
    · simp only [if_neg q1, if_neg (show ¬ (1 : Int32) = 0 by decide)]
      by_cases q2 : n ≤ 60
      · simp only [if_pos q2]
        by_cases q3 : 0 ≤ n
        · simp only [if_pos q3]
          obtain ⟨j, hj, rfl⟩ := z_hask (x := 4) (m := 4) (N := 4) rfl (Nat.le_refl _) (by decide) q0
          rw [nI_clamp (show j < 2 ^ 31 by omega)]
          refine ⟨trivial, fun k' hk' => ?_⟩
          have bl : B l 0 2 := z_wi_B (by decide : B 0 0 0) (by decide : B 2 2 2) q1
          have w2 := w_le q3
          have e0 : (0 : Int32).toInt = 0 := by decide
          have nl : ¬ l = -4 := D_ne bl (by decide : B (-4) (-4) (-4)) (by decide)
          have nn : ¬ n = -1 := fun e => by rw [e] at q3; exact absurd q3 (by decide)
          unfold k_renew
          by_cases e : k' = j
          · subst e
            refine ⟨?_, ?_, fun i hi => ?_⟩
            · simp (disch := omega) only [k_cl_ne, ev_rd1, ev_rd2]
              exact ⟨fun z => absurd z nn, fun z => absurd z nl⟩
            · intro _
              simp (disch := omega) only [k_cl_ne, ev_rd1, ev_rd2]
              exact ⟨trivial, trivial⟩
            · rw [k_cl_in 60 (by omega) (by omega)]
              simp (disch := omega) only [k_cl_ne, ev_rd2, h_fl_in]
          · obtain ⟨a1, a2, a3⟩ := hR k' hk'
            refine ⟨?_, ?_, fun i hi => ?_⟩
            · simp (disch := omega) only [k_cl_ne, ev_rd2, ev_rd3, h_fl_ne]
              exact a1
            · simp (disch := omega) only [k_cl_ne, ev_rd2, ev_rd3, h_fl_ne]
              exact a2
            · rw [k_cl_out 60 (by omega)]
              simp (disch := omega) only [k_cl_ne, ev_rd2, ev_rd3, h_fl_ne]
              exact a3 i hi
        · simp only [if_neg q3]; exact ⟨trivial, hR⟩
      · simp only [if_neg q2]; exact ⟨trivial, hR⟩
theorem w_layZ (L : Nat) (b : Bool) (h : Hp) (hB : Bx h) (k i v : Int32) : EvI mi_X9_lay [.ref 1, .int k, .int i, .int v] (G0 L b) h (fun r z => r = r_lay h k i ∧ z = k_lay h k i v) [(57, 999), (58, 999), (59, 999), (60, 999)] := by
  refine (x_lay L b h (z_hs4 hB) k i v).ix ?_
  unfold k_lay
  split
  · exact JW.refl hB
  · rename_i q0
    split
    · split
      · exact JW.refl hB
      · obtain ⟨j, hj, rfl⟩ := z_hask (x := 4) (m := 4) (N := 4) rfl (Nat.le_refl _) (by decide) q0
        rw [nI_clamp (show j < 2 ^ 31 by omega)]
        rcases (show j = 0 ∨ j = 1 ∨ j = 2 ∨ j = 3 by omega) with rfl | rfl | rfl | rfl <;> exact (JW.refl hB).set rfl (B.any _)
    · exact JW.refl hB
theorem w_mlayZ (L : Nat) (b : Bool) (h : Hp) (hB : Bx h) (k i v : Int32) : EvI mi_X10_lay [.ref 63, .int k, .int i, .int v] (G0 L b) h (fun r z => r = rmLy h k i ∧ z = kmLy h k i v) [(94, 999)] := by
  refine (c_mlay L b h hB k i v).ix ?_
  unfold kmLy
  split
  · exact JW.refl hB
  · split
    · exact JW.refl hB
    · split
      · exact JW.refl hB
      · exact (JW.refl hB).set rfl (B.any _)
theorem rel_lay {h : Hp} (hB : Bx h) (hR : RSh h) (k i v : Int32) : r_lay h k i = rmLy (k_lay h k i v) k i ∧ RSh (kmLy (k_lay h k i v) k i v) := by
  unfold r_lay rmLy kmLy
  rw [z_sht_has]
  by_cases q0 : z_has k 4 = 0
  · unfold k_lay
    simp only [if_pos q0, if_true]; exact ⟨trivial, hR⟩
  · obtain ⟨j, hj, rfl⟩ := z_hask (x := 4) (m := 4) (N := 4) rfl (Nat.le_refl _) (by decide) q0
    have ej := nI_clamp (show j < 2 ^ 31 by omega)
    obtain ⟨a1, a2, a3⟩ := hR j hj
    have z2 : ¬ z_wi 0 0 2 = 0 := by decide
    unfold k_lay
    simp only [if_neg q0, if_neg z2, ej, if_neg (show ¬ (1 : Int32) = 0 by decide)]
    by_cases q1 : h 62 j = -1
    · have e1 : ¬ z_noth (h 62 j) = 0 := by unfold z_noth; rw [if_pos q1]; decide
      simp only [if_neg e1, if_pos (a1.mp q1)]
      exact ⟨trivial, hR⟩
    · have e1 : z_noth (h 62 j) = 0 := by unfold z_noth; rw [if_neg q1]
      have q2 : ¬ h 92 j = -4 := fun z => q1 (a1.mpr z)
      obtain ⟨b1, b2⟩ := a2 q1
      simp only [if_pos e1]
      by_cases q3 : z_has i (h 62 j) = 0
      · have q4 : z_has i (h 93 j) = 0 := by rw [← b1]; exact q3
        simp only [if_pos q3, if_neg q2, if_pos q4]
        exact ⟨trivial, hR⟩
      · have q4 : ¬ z_has i (h 93 j) = 0 := by rw [← b1]; exact q3
        simp only [if_neg q3]
        simp (disch := omega) only [ev_rd2]
        simp only [if_neg q2, if_neg q4]
        obtain ⟨t, ht, rfl⟩ := z_hask (B.nI (u := 60) (hB 93 j)).1 (B.nI (u := 60) (hB 93 j)).2 (by decide) q4
        have ht2 := (B.nI (u := 60) (hB 93 j)).2
        rw [nI_clamp (show t < 2 ^ 31 by omega), b2]
        refine ⟨trivial, fun k' hk' => ?_⟩
        obtain ⟨c1, c2, c3⟩ := hR k' hk'
        refine ⟨?_, ?_, fun i' hi' => ?_⟩
        · simp (disch := omega) only [ev_rd2]
          exact c1
        · simp (disch := omega) only [ev_rd2]
          exact c2
        · rw [ev_rd2 (show 57 + k' ≠ 94 by omega)]
          by_cases e : k' = j ∧ i' = t
          · obtain ⟨e2, e3⟩ := e
            subst e2
            subst e3
            rw [ev_rd1, ev_rd1]
          · by_cases e2 : k' = j
            · subst e2
              rw [ev_rd3 (fun z => e ⟨rfl, z⟩), ev_rd3 (by omega), ev_rd2 (by omega)]
              exact c3 i' hi'
            · rw [ev_rd2 (by omega), ev_rd3 (by omega), ev_rd2 (by omega)]
              exact c3 i' hi'
def zA (w n d s : Int32) : Int32 := if z_wi n 0 3600 = 0 then -1 else if z_wi d 1 9 = 0 then -1 else if z_wi s 0 20 = 0 then -1 else if w < 12 then w + 1 - 1 else -3
def nA (w n d s : Int32) : Int32 := if z_wi n 0 3600 = 0 then w else if z_wi d 1 9 = 0 then w else if z_wi s 0 20 = 0 then w else if w < 12 then w + 1 else w
theorem jw_add {h : Hp} (hB : Bx h) (m : Nat) (n d s q : Int32) : JW [(4, 7), (5, 999), (6, 999), (7, 999), (8, 999)] h (k_add h m n d s q) ∧ k_add h m n d s q 4 7 = nA (h 4 7) n d s := by
  have p5 : B (h 4 7) 0 12 := hB 4 7
  unfold k_add nA
  by_cases q1 : z_wi n 0 3600 = 0
  · simp only [if_pos q1]; exact ⟨JW.refl hB, trivial⟩
  · simp only [if_neg q1]
    by_cases q2 : z_wi d 1 9 = 0
    · simp only [if_pos q2]; exact ⟨JW.refl hB, trivial⟩
    · simp only [if_neg q2]
      by_cases q3 : z_wi s 0 20 = 0
      · simp only [if_pos q3]; exact ⟨JW.refl hB, trivial⟩
      · simp only [if_neg q3]
        by_cases q4 : h 4 7 < 12
        · simp only [if_pos q4]
          have b1 : B (h 4 7) 0 11 := R_ltX p5 (by decide : B 12 12 12) q4 (by decide)
          exact ⟨(((((JW.refl hB).set rfl (B.any _)).set rfl (B.any _)).set rfl (B.any _)).set rfl (B.any _)).set rfl (B.mono (B.add b1 (by decide : B 1 1 1) (by decide) (by decide)).1 (by decide) (by decide)), ev_rd1 _ _ _ _⟩
        · simp only [if_neg q4]; exact ⟨JW.refl hB, trivial⟩
theorem w_addX (L : Nat) (b : Bool) (h : Hp) (hB : Bx h) (n d s q : Int32) (hq : q = 0 ∨ q = 1) : EvI mi_X8_add [.ref 4, .int n, .int d, .int s, .int q] (G0 L b) h (fun r z => r = zA (h 4 7) n d s ∧ z 4 7 = nA (h 4 7) n d s) [(4, 7), (5, 999), (6, 999), (7, 999), (8, 999)] := EvM.mono (c_add L b h _ (B.nI (u := 12) (hB 4 7)).2 (B.nI (u := 12) (hB 4 7)).1 n d s q hq) (fun v G' h' z => by
  obtain ⟨rfl, rfl, rfl⟩ := z
  exact ⟨⟨_, rfl, rfl, (jw_add hB _ n d s q).2⟩, rfl, (jw_add hB _ n d s q).1⟩)
theorem w_whistleX (L : Nat) (b : Bool) (h : Hp) (hB : Bx h) (n d s q : Int32) (hq : q = 0 ∨ q = 1) : EvI mi_X9_whistle [.ref 1, .int n, .int d, .int s, .int q] (G0 L b) h (fun r z => r = zA (h 4 7) n d s ∧ z 4 7 = nA (h 4 7) n d s) [(4, 7), (5, 999), (6, 999), (7, 999), (8, 999)] := EvM.mono (x_whistle L b h _ (B.nI (u := 12) (hB 4 7)).2 (B.nI (u := 12) (hB 4 7)).1 n d s q hq) (fun v G' h' z => by
  obtain ⟨rfl, rfl, rfl⟩ := z
  exact ⟨⟨_, rfl, rfl, (jw_add hB _ n d s q).2⟩, rfl, (jw_add hB _ n d s q).1⟩)
theorem z_bb12 {h : Hp} (hB : Bx h) (c : ¬ h 63 5 = 12) : vp_in (h 63 5) 12 := by
  have p5 : B (h 63 5) 0 12 := hB 63 5
  exact (R_neU p5 (by decide : B 12 12 12) c (by decide) : B (h 63 5) 0 11).vp (by decide) (by decide)
def rmWh (w n d s : Int32) : Int32 := if z_wi n 0 3600 = 0 then -1 else if z_wi d 1 9 = 0 then -1 else if z_wi s 0 20 = 0 then -1 else if w = 12 then -3 else w + 1 - 1
def kmWh (h : Hp) (n d s q : Int32) : Hp := if z_wi n 0 3600 = 0 then h else if z_wi d 1 9 = 0 then h else if z_wi s 0 20 = 0 then h else if h 63 5 = 12 then h else
  ev_set (ev_set (ev_set (ev_set (ev_set (ev_set (ev_set (ev_set h 64 (h 63 5).toNatClampNeg n) 65 (h 63 5).toNatClampNeg d) 66 (h 63 5).toNatClampNeg s) 67 (h 63 5).toNatClampNeg q) 68 (h 63 5).toNatClampNeg 0) 69 (h 63 5).toNatClampNeg 0) 70 (h 63 5).toNatClampNeg 0) 63 5 (h 63 5 + 1)

set_option maxRecDepth 100000 in
set_option maxHeartbeats 4000000 in
theorem c_mwh (L : Nat) (b : Bool) (h : Hp) (hB : Bx h) (n d s q : Int32) (hq : q = 0 ∨ q = 1) : EvD mi_X10_whistle [.ref 63, .int n, .int d, .int s, .int q] (G0 L b) h (rmWh (h 63 5) n d s) (kmWh h n d s q) := by
  refine EvD.of (lo := [some (.ref 63), some (.int n), some (.int d), some (.int s), some (.int q)]) pf_X10_whistle ok_X10_whistle rfl rfl ?_
  refine ev_iload_n rfl rfl rfl ?_
  refine ev_i2l rfl rfl ?_
  refine ev_lconst (v := 0) rfl rfl rfl ?_
  refine ev_ldc2 rfl rfl kc_X10_165 ?_
  refine ev_S3D rfl rfl lk_X10_124 st_X10_in rfl rfl (c_inw _ _ _ (0) (3600) (by decide) (by decide)) ?_
  refine ev_if_eq rfl rfl (fun c_9 => ?_) (fun c_9 => ?_)
  · refine ev_iconst (v := (-1)) rfl rfl (by decide) ?_
    exact ev_iret rfl rfl rfl (⟨congrArg (fun z => some (Value.int z)) (by simp only [rmWh, if_pos c_9]), rfl, by simp only [kmWh, if_pos c_9]⟩)
  · refine ev_iload_n rfl rfl rfl ?_
    refine ev_i2l rfl rfl ?_
    refine ev_lconst (v := 1) rfl rfl rfl ?_
    refine ev_ldc2 rfl rfl kc_X10_134 ?_
    refine ev_S3D rfl rfl lk_X10_124 st_X10_in rfl rfl (c_inw _ _ _ (1) (9) (by decide) (by decide)) ?_
    refine ev_if_eq rfl rfl (fun c_21 => ?_) (fun c_21 => ?_)
    · refine ev_iconst (v := (-1)) rfl rfl (by decide) ?_
      exact ev_iret rfl rfl rfl (⟨congrArg (fun z => some (Value.int z)) (by simp only [rmWh, if_neg c_9, if_pos c_21]), rfl, by simp only [kmWh, if_neg c_9, if_pos c_21]⟩)
    · refine ev_iload_n rfl rfl rfl ?_
      refine ev_i2l rfl rfl ?_
      refine ev_lconst (v := 0) rfl rfl rfl ?_
      refine ev_ldc2 rfl rfl kc_X10_167 ?_
      refine ev_S3D rfl rfl lk_X10_124 st_X10_in rfl rfl (c_inw _ _ _ (0) (20) (by decide) (by decide)) ?_
      refine ev_if_ne rfl rfl (fun c_33 => ?_) (fun c_33 => ?_)
      · refine ev_aload_n rfl rfl rfl ?_
        refine ev_getI rfl rfl fl_X10_121 rfl rfl rfl ?_
        try simp (disch := decide) only [ev_rd1, ev_rd2]
        refine ev_bipush (v := 12) rfl rfl (by decide) ?_
        refine ev_icmp_ne rfl rfl (fun c_44 => ?_) (fun c_44 => ?_)
        · refine ev_aload_n rfl rfl rfl ?_
          refine ev_getR rfl rfl fl_X10_22 rfl rfl rfl rfl ?_
          refine ev_aload_n rfl rfl rfl ?_
          refine ev_getI rfl rfl fl_X10_121 rfl rfl rfl ?_
          try simp (disch := decide) only [ev_rd1, ev_rd2]
          refine ev_iload_n rfl rfl rfl ?_
          refine ev_iast rfl rfl rfl rfl (z_bb12 hB c_44) rfl ?_
          refine ev_aload_n rfl rfl rfl ?_
          refine ev_getR rfl rfl fl_X10_26 rfl rfl rfl rfl ?_
          refine ev_aload_n rfl rfl rfl ?_
          refine ev_getI rfl rfl fl_X10_121 rfl rfl rfl ?_
          try simp (disch := decide) only [ev_rd1, ev_rd2]
          refine ev_iload_n rfl rfl rfl ?_
          refine ev_iast rfl rfl rfl rfl (z_bb12 hB c_44) rfl ?_
          refine ev_aload_n rfl rfl rfl ?_
          refine ev_getR rfl rfl fl_X10_29 rfl rfl rfl rfl ?_
          refine ev_aload_n rfl rfl rfl ?_
          refine ev_getI rfl rfl fl_X10_121 rfl rfl rfl ?_
          try simp (disch := decide) only [ev_rd1, ev_rd2]
          refine ev_iload_n rfl rfl rfl ?_
          refine ev_iast rfl rfl rfl rfl (z_bb12 hB c_44) rfl ?_
          refine ev_aload_n rfl rfl rfl ?_
          refine ev_getR rfl rfl fl_X10_32 rfl rfl rfl rfl ?_
          refine ev_aload_n rfl rfl rfl ?_
          refine ev_getI rfl rfl fl_X10_121 rfl rfl rfl ?_
          try simp (disch := decide) only [ev_rd1, ev_rd2]
          refine ev_iload rfl rfl rfl ?_
          refine ev_zast rfl rfl rfl rfl (z_bb12 hB c_44) rfl hq ?_
          refine ev_aload_n rfl rfl rfl ?_
          refine ev_getR rfl rfl fl_X10_36 rfl rfl rfl rfl ?_
          refine ev_aload_n rfl rfl rfl ?_
          refine ev_getI rfl rfl fl_X10_121 rfl rfl rfl ?_
          try simp (disch := decide) only [ev_rd1, ev_rd2]
          refine ev_iconst (v := 0) rfl rfl (by decide) ?_
          refine ev_iast rfl rfl rfl rfl (z_bb12 hB c_44) rfl ?_
          refine ev_aload_n rfl rfl rfl ?_
          refine ev_getR rfl rfl fl_X10_39 rfl rfl rfl rfl ?_
          refine ev_aload_n rfl rfl rfl ?_
          refine ev_getI rfl rfl fl_X10_121 rfl rfl rfl ?_
          try simp (disch := decide) only [ev_rd1, ev_rd2]
          refine ev_iconst (v := 0) rfl rfl (by decide) ?_
          refine ev_iast rfl rfl rfl rfl (z_bb12 hB c_44) rfl ?_
          refine ev_aload_n rfl rfl rfl ?_
          refine ev_getR rfl rfl fl_X10_42 rfl rfl rfl rfl ?_
          refine ev_aload_n rfl rfl rfl ?_
          refine ev_getI rfl rfl fl_X10_121 rfl rfl rfl ?_
          try simp (disch := decide) only [ev_rd1, ev_rd2]
          refine ev_iconst (v := 0) rfl rfl (by decide) ?_
          refine ev_zast rfl rfl rfl rfl (z_bb12 hB c_44) rfl (Or.inl rfl) ?_
          refine ev_aload_n rfl rfl rfl ?_
          refine ev_dup rfl rfl rfl ?_
          refine ev_getI rfl rfl fl_X10_121 rfl rfl rfl ?_
          try simp (disch := decide) only [ev_rd1, ev_rd2]
          refine ev_iconst (v := 1) rfl rfl (by decide) ?_
          refine ev_iadd rfl rfl ?_
          refine ev_putI rfl rfl fl_X10_121 rfl rfl rfl rfl rfl ?_
          refine ev_aload_n rfl rfl rfl ?_
          refine ev_getI rfl rfl fl_X10_121 rfl rfl rfl ?_
          try simp (disch := decide) only [ev_rd1, ev_rd2]
          refine ev_iconst (v := 1) rfl rfl (by decide) ?_
          refine ev_isub rfl rfl ?_
          exact ev_iret rfl rfl rfl (⟨congrArg (fun z => some (Value.int z)) (by simp only [rmWh, if_neg c_9, if_neg c_21, if_neg c_33, if_neg c_44]), rfl, by simp only [kmWh, if_neg c_9, if_neg c_21, if_neg c_33, if_neg c_44]⟩)
        · refine ev_bipush (v := (-3)) rfl rfl (by decide) ?_
          exact ev_iret rfl rfl rfl (⟨congrArg (fun z => some (Value.int z)) (by simp only [rmWh, if_neg c_9, if_neg c_21, if_neg c_33, if_pos c_44]), rfl, by simp only [kmWh, if_neg c_9, if_neg c_21, if_neg c_33, if_pos c_44]⟩)
      · refine ev_iconst (v := (-1)) rfl rfl (by decide) ?_
        exact ev_iret rfl rfl rfl (⟨congrArg (fun z => some (Value.int z)) (by simp only [rmWh, if_neg c_9, if_neg c_21, if_pos c_33]), rfl, by simp only [kmWh, if_neg c_9, if_neg c_21, if_pos c_33]⟩)

theorem rmWh_eq {w : Int32} (hw : B w 0 12) (n d s : Int32) : rmWh w n d s = zA w n d s := by
  unfold rmWh zA
  have e : (w = 12) ↔ ¬ w < 12 := by
    have e2 : (12 : Int32).toInt = 12 := by decide
    have h1 := hw.2
    rw [Int32.lt_iff_toInt_lt, ← Int32.toInt_inj]
    omega
  by_cases q : w < 12
  · rw [if_pos q, if_neg (fun z => e.mp z q)]
  · rw [if_neg q, if_pos (e.mpr q)]
theorem jw_mwh {h : Hp} (hB : Bx h) (n d s q : Int32) : JW [(63, 5), (64, 999), (65, 999), (66, 999), (67, 999), (68, 999), (69, 999), (70, 999)] h (kmWh h n d s q) ∧ kmWh h n d s q 63 5 = nA (h 63 5) n d s := by
  have p5 : B (h 63 5) 0 12 := hB 63 5
  unfold kmWh nA
  by_cases q1 : z_wi n 0 3600 = 0
  · simp only [if_pos q1]; exact ⟨JW.refl hB, trivial⟩
  · simp only [if_neg q1]
    by_cases q2 : z_wi d 1 9 = 0
    · simp only [if_pos q2]; exact ⟨JW.refl hB, trivial⟩
    · simp only [if_neg q2]
      by_cases q3 : z_wi s 0 20 = 0
      · simp only [if_pos q3]; exact ⟨JW.refl hB, trivial⟩
      · simp only [if_neg q3]
        by_cases q4 : h 63 5 = 12
        · have q5 : ¬ h 63 5 < 12 := by rw [q4]; decide
          simp only [if_pos q4, if_neg q5]; exact ⟨JW.refl hB, trivial⟩
        · have b1 : B (h 63 5) 0 11 := R_neU p5 (by decide : B 12 12 12) q4 (by decide)
          have q5 : h 63 5 < 12 := D_lt b1 (by decide : B 12 12 12) (by decide)
          simp only [if_neg q4, if_pos q5]
          exact ⟨((((((((JW.refl hB).set rfl (B.any _)).set rfl (B.any _)).set rfl (B.any _)).set rfl (B.any _)).set rfl (B.any _)).set rfl (B.any _)).set rfl (B.any _)).set rfl (B.mono (B.add b1 (by decide : B 1 1 1) (by decide) (by decide)).1 (by decide) (by decide)), ev_rd1 _ _ _ _⟩
theorem w_mwhX (L : Nat) (b : Bool) (h : Hp) (hB : Bx h) (n d s q : Int32) (hq : q = 0 ∨ q = 1) : EvI mi_X10_whistle [.ref 63, .int n, .int d, .int s, .int q] (G0 L b) h (fun r z => r = zA (h 63 5) n d s ∧ z 63 5 = nA (h 63 5) n d s) [(63, 5), (64, 999), (65, 999), (66, 999), (67, 999), (68, 999), (69, 999), (70, 999)] := EvM.mono (c_mwh L b h hB n d s q hq) (fun v G' h' z => by
  obtain ⟨rfl, rfl, rfl⟩ := z
  exact ⟨⟨_, rfl, rmWh_eq (hB 63 5) n d s, (jw_mwh hB n d s q).2⟩, rfl, (jw_mwh hB n d s q).1⟩)
/-- scan()'s row at a: answer, and the number behind -/
def oC (c : Nat → Int32) (s a w : Int32) : Int32 := if 0 ≤ a.toInt ∧ a.toInt + 4 ≤ s.toInt then (if zA w (c a.toNatClampNeg) (c (a.toNatClampNeg + 1)) (c (a.toNatClampNeg + 2)) < 0 then -20 + zA w (c a.toNatClampNeg) (c (a.toNatClampNeg + 1)) (c (a.toNatClampNeg + 2)) else nA w (c a.toNatClampNeg) (c (a.toNatClampNeg + 1)) (c (a.toNatClampNeg + 2))) else -12
def oN (c : Nat → Int32) (s a w : Int32) : Int32 := if 0 ≤ a.toInt ∧ a.toInt + 4 ≤ s.toInt then nA w (c a.toNatClampNeg) (c (a.toNatClampNeg + 1)) (c (a.toNatClampNeg + 2)) else w
theorem has_n {x s : Int32} (q : ¬ z_has x s = 0) : 0 ≤ x.toInt ∧ x.toInt < s.toInt := by
  unfold z_has at q
  have e0 : (0 : Int32).toInt = 0 := by decide
  by_cases c1 : x < 0
  · rw [if_pos c1] at q; exact absurd rfl q
  · rw [if_neg c1] at q
    by_cases c2 : s ≤ x
    · rw [if_pos c2] at q; exact absurd rfl q
    · have z1 := w_nlt c1
      have z2 := w_lt (Int32.not_le.mp c2)
      omega
theorem has_z {x s : Int32} (q : z_has x s = 0) : ¬ (0 ≤ x.toInt ∧ x.toInt < s.toInt) := by
  unfold z_has at q
  have e0 : (0 : Int32).toInt = 0 := by decide
  by_cases c1 : x < 0
  · have := w_lt c1
    omega
  · rw [if_neg c1] at q
    by_cases c2 : s ≤ x
    · have := w_le c2
      omega
    · rw [if_neg c2] at q; exact absurd q (by decide)
theorem c4_no {a s j : Int32} (hs : B s (-1) 60) (q : z_has (a + j) s = 0) (hj : B j 0 3) : ¬ (0 ≤ a.toInt ∧ a.toInt + 4 ≤ s.toInt) := fun z => by
  have h1 := hs.2
  have h2 := hj.1
  have h3 := hj.2
  have e := w_add (x := a) (y := j) (by omega) (by omega)
  exact has_z q (by omega)
theorem c4_ok {a s : Int32} (hs : B s (-1) 60) {j : Int32} (q0 : ¬ z_has (a + 0) s = 0) (q3 : ¬ z_has (a + j) s = 0) (hj : B j 3 3) : ∃ x : Nat, x + 4 ≤ 60 ∧ a = nI x ∧ (0 ≤ a.toInt ∧ a.toInt + 4 ≤ s.toInt) := by
  have h1 := hs.2
  rw [Int32.add_zero] at q0
  have z0 := has_n q0
  have e3 := hj.1
  have e4 := hj.2
  have e := w_add (x := a) (y := j) (by omega) (by omega)
  have z3 := has_n q3
  have p : B a 0 ((56 : Nat) : Int) := ⟨by omega, by omega⟩
  exact ⟨a.toNatClampNeg, by have := (B.nI p).2; omega, (B.nI p).1, by omega, by omega⟩

theorem oC_nn {c : Nat → Int32} {s a w r : Int32} {x : Nat} (hok : 0 ≤ a.toInt ∧ a.toInt + 4 ≤ s.toInt) (ex : a.toNatClampNeg = x) (e : r = zA w (c x) (c (x + 1)) (c (x + 2))) (hr : 0 ≤ r) : oC c s a w = nA w (c x) (c (x + 1)) (c (x + 2)) := by
  subst ex
  unfold oC
  rw [if_pos hok, if_neg (by rw [← e]; exact Int32.not_lt.mpr hr)]
theorem oC_neg {c : Nat → Int32} {s a w r : Int32} {x : Nat} (hok : 0 ≤ a.toInt ∧ a.toInt + 4 ≤ s.toInt) (ex : a.toNatClampNeg = x) (e : r = zA w (c x) (c (x + 1)) (c (x + 2))) (hr : ¬ 0 ≤ r) : -20 + r = oC c s a w := by
  subst ex
  unfold oC
  rw [if_pos hok, if_pos (by rw [← e]; exact Int32.not_le.mp hr), ← e]
theorem oN_ok {c : Nat → Int32} {s a w : Int32} {x : Nat} (hok : 0 ≤ a.toInt ∧ a.toInt + 4 ≤ s.toInt) (ex : a.toNatClampNeg = x) : oN c s a w = nA w (c x) (c (x + 1)) (c (x + 2)) := by
  subst ex
  unfold oN
  rw [if_pos hok]

set_option maxRecDepth 100000 in
set_option maxHeartbeats 4000000 in
theorem w_scanOneX (L : Nat) (b : Bool) (h : Hp) (hB : Bx h) (k : Nat) (hk : k < 4) (a : Int32) : EvI mi_X9_scanOne [.ref 1, .int (nI k), .int a] (G0 L b) h (fun r z => r = oC (h (57 + k)) (h 62 k) a (h 4 7) ∧ z 4 7 = oN (h (57 + k)) (h 62 k) a (h 4 7)) [(4, 7), (5, 999), (6, 999), (7, 999), (8, 999)] := by
  refine EvM.of2 (lo := [some (.ref 1), some (.int (nI k)), some (.int a), none, none]) pf_X9_scanOne ok_X9_scanOne rfl rfl ?_
  refine ev_iconst (v := 0) rfl rfl (by decide) ?_
  refine ev_istore_n rfl rfl rfl rfl ?_
  dsimp only [List.set]
  refine ev_iload_n rfl rfl rfl ?_
  refine ev_iconst (v := 4) rfl rfl (by decide) ?_
  refine ev_icmp_ge rfl rfl (fun z_ => absurd z_ (by decide)) (fun c_4 => ?_)
  refine ev_aload_n rfl rfl rfl ?_
  refine ev_getR rfl rfl fl_X9_71 rfl rfl rfl rfl ?_
  refine ev_iload_n rfl rfl rfl ?_
  refine ev_iload_n rfl rfl rfl ?_
  refine ev_iload_n rfl rfl rfl ?_
  refine ev_iadd rfl rfl ?_
  refine ev_V2D rfl rfl lk_X9_325 vt_X5_hasCell rfl rfl rfl rfl rfl (c_hasCell _ _ _ k hk _) ?_
  refine ev_if_ne rfl rfl (fun c_18 => ?_) (fun c_18 => ?_)
  · refine ev_iinc (y := 1) rfl rfl rfl (by decide) rfl rfl ?_
    dsimp only [List.set]
    refine ev_goto rfl rfl ?_
    refine ev_iload_n rfl rfl rfl ?_
    refine ev_iconst (v := 4) rfl rfl (by decide) ?_
    refine ev_icmp_ge rfl rfl (fun z_ => absurd z_ (by decide)) (fun c_4b => ?_)
    refine ev_aload_n rfl rfl rfl ?_
    refine ev_getR rfl rfl fl_X9_71 rfl rfl rfl rfl ?_
    refine ev_iload_n rfl rfl rfl ?_
    refine ev_iload_n rfl rfl rfl ?_
    refine ev_iload_n rfl rfl rfl ?_
    refine ev_iadd rfl rfl ?_
    refine ev_V2D rfl rfl lk_X9_325 vt_X5_hasCell rfl rfl rfl rfl rfl (c_hasCell _ _ _ k hk _) ?_
    refine ev_if_ne rfl rfl (fun c_18b => ?_) (fun c_18b => ?_)
    · refine ev_iinc (y := 1) rfl rfl rfl (by decide) rfl rfl ?_
      dsimp only [List.set]
      refine ev_goto rfl rfl ?_
      refine ev_iload_n rfl rfl rfl ?_
      refine ev_iconst (v := 4) rfl rfl (by decide) ?_
      refine ev_icmp_ge rfl rfl (fun z_ => absurd z_ (by decide)) (fun c_4bb => ?_)
      refine ev_aload_n rfl rfl rfl ?_
      refine ev_getR rfl rfl fl_X9_71 rfl rfl rfl rfl ?_
      refine ev_iload_n rfl rfl rfl ?_
      refine ev_iload_n rfl rfl rfl ?_
      refine ev_iload_n rfl rfl rfl ?_
      refine ev_iadd rfl rfl ?_
      refine ev_V2D rfl rfl lk_X9_325 vt_X5_hasCell rfl rfl rfl rfl rfl (c_hasCell _ _ _ k hk _) ?_
      refine ev_if_ne rfl rfl (fun c_18bb => ?_) (fun c_18bb => ?_)
      · refine ev_iinc (y := 1) rfl rfl rfl (by decide) rfl rfl ?_
        dsimp only [List.set]
        refine ev_goto rfl rfl ?_
        refine ev_iload_n rfl rfl rfl ?_
        refine ev_iconst (v := 4) rfl rfl (by decide) ?_
        refine ev_icmp_ge rfl rfl (fun z_ => absurd z_ (by decide)) (fun c_4bbb => ?_)
        refine ev_aload_n rfl rfl rfl ?_
        refine ev_getR rfl rfl fl_X9_71 rfl rfl rfl rfl ?_
        refine ev_iload_n rfl rfl rfl ?_
        refine ev_iload_n rfl rfl rfl ?_
        refine ev_iload_n rfl rfl rfl ?_
        refine ev_iadd rfl rfl ?_
        refine ev_V2D rfl rfl lk_X9_325 vt_X5_hasCell rfl rfl rfl rfl rfl (c_hasCell _ _ _ k hk _) ?_
        refine ev_if_ne rfl rfl (fun c_18bbb => ?_) (fun c_18bbb => ?_)
        · refine ev_iinc (y := 1) rfl rfl rfl (by decide) rfl rfl ?_
          dsimp only [List.set]
          refine ev_goto rfl rfl ?_
          refine ev_iload_n rfl rfl rfl ?_
          refine ev_iconst (v := 4) rfl rfl (by decide) ?_
          refine ev_icmp_ge rfl rfl (fun c_4bbbb => ?_) (fun z_ => absurd (by decide) z_)
          obtain ⟨x, hx, rfl, hok⟩ := c4_ok (hB 62 k) c_18 c_18bbb (by decide)
          have ex := nI_clamp (show x < 2 ^ 31 by omega)
          refine ev_aload_n rfl rfl rfl ?_
          refine ev_getR rfl rfl fl_X9_71 rfl rfl rfl rfl ?_
          refine ev_getR rfl rfl fl_X9_362 rfl rfl rfl rfl ?_
          refine ev_iload_n rfl rfl rfl ?_
          refine ev_aald (y := 57 + k) (j := k) rfl rfl rfl rfl (vp_in_nI (by omega) (by decide)) (nI_clamp (by omega)) (g_sht L b hk).1 ?_
          refine ev_astore_n rfl rfl rfl rfl ?_
          dsimp only [List.set]
          refine ev_aload_n rfl rfl rfl ?_
          refine ev_getR rfl rfl fl_X9_22 rfl rfl rfl rfl ?_
          refine ev_aload_n rfl rfl rfl ?_
          refine ev_iload_n rfl rfl rfl ?_
          refine ev_iald (j := x) rfl rfl (g_sht L b hk).2 (vp_in_nI (by omega) (by decide)) (nI_clamp (by omega)) ?_
          refine ev_aload_n rfl rfl rfl ?_
          refine ev_iload_n rfl rfl rfl ?_
          refine ev_iconst (v := 1) rfl rfl (by decide) ?_
          refine ev_iadd rfl rfl ?_
          refine ev_iald (j := x + 1) rfl rfl (g_sht L b hk).2 (by rw [show nI x + 1 = nI (x + 1) from nI_add x 1]; exact vp_in_nI (by omega) (by decide)) (by rw [show nI x + 1 = nI (x + 1) from nI_add x 1]; exact nI_clamp (by omega)) ?_
          refine ev_aload_n rfl rfl rfl ?_
          refine ev_iload_n rfl rfl rfl ?_
          refine ev_iconst (v := 2) rfl rfl (by decide) ?_
          refine ev_iadd rfl rfl ?_
          refine ev_iald (j := x + 2) rfl rfl (g_sht L b hk).2 (by rw [show nI x + 2 = nI (x + 2) from nI_add x 2]; exact vp_in_nI (by omega) (by decide)) (by rw [show nI x + 2 = nI (x + 2) from nI_add x 2]; exact nI_clamp (by omega)) ?_
          refine ev_aload_n rfl rfl rfl ?_
          refine ev_iload_n rfl rfl rfl ?_
          refine ev_iconst (v := 3) rfl rfl (by decide) ?_
          refine ev_iadd rfl rfl ?_
          refine ev_iald (j := x + 3) rfl rfl (g_sht L b hk).2 (by rw [show nI x + 3 = nI (x + 3) from nI_add x 3]; exact vp_in_nI (by omega) (by decide)) (by rw [show nI x + 3 = nI (x + 3) from nI_add x 3]; exact nI_clamp (by omega)) ?_
          refine ev_if_eq rfl rfl (fun c_62 => ?_) (fun c_62 => ?_)
          · refine ev_iconst (v := 0) rfl rfl (by decide) ?_
            refine ev_V4I (JW.refl (W := [(4, 7), (5, 999), (6, 999), (7, 999), (8, 999)]) hB) rfl rfl rfl lk_X9_122 vt_X8_add rfl rfl rfl rfl rfl (w_addX L b h hB _ _ _ _ (by decide)) (fun r1 h1 q1 j1 k1 => ?_)
            refine ev_istore rfl rfl rfl rfl ?_
            dsimp only [List.set]
            refine ev_iload rfl rfl rfl ?_
            refine ev_if_ge rfl rfl (fun c_77 => ?_) (fun c_77 => ?_)
            · refine ev_aload_n rfl rfl rfl ?_
              refine ev_getR rfl rfl fl_X9_22 rfl rfl rfl rfl ?_
              refine ev_getI rfl rfl fl_X9_158 rfl rfl rfl ?_
              exact ev_iret rfl rfl rfl (⟨⟨_, rfl, q1.2.trans (oC_nn hok ex q1.1 c_77).symm, q1.2.trans (oN_ok hok ex).symm⟩, rfl, k1⟩)
            · refine ev_bipush (v := (-20)) rfl rfl (by decide) ?_
              refine ev_iload rfl rfl rfl ?_
              refine ev_iadd rfl rfl ?_
              refine ev_goto rfl rfl ?_
              exact ev_iret rfl rfl rfl (⟨⟨_, rfl, oC_neg hok ex q1.1 c_77, q1.2.trans (oN_ok hok ex).symm⟩, rfl, k1⟩)
          · refine ev_iconst (v := 1) rfl rfl (by decide) ?_
            refine ev_goto rfl rfl ?_
            refine ev_V4I (JW.refl (W := [(4, 7), (5, 999), (6, 999), (7, 999), (8, 999)]) hB) rfl rfl rfl lk_X9_122 vt_X8_add rfl rfl rfl rfl rfl (w_addX L b h hB _ _ _ _ (by decide)) (fun r1 h1 q1 j1 k1 => ?_)
            refine ev_istore rfl rfl rfl rfl ?_
            dsimp only [List.set]
            refine ev_iload rfl rfl rfl ?_
            refine ev_if_ge rfl rfl (fun c_77 => ?_) (fun c_77 => ?_)
            · refine ev_aload_n rfl rfl rfl ?_
              refine ev_getR rfl rfl fl_X9_22 rfl rfl rfl rfl ?_
              refine ev_getI rfl rfl fl_X9_158 rfl rfl rfl ?_
              exact ev_iret rfl rfl rfl (⟨⟨_, rfl, q1.2.trans (oC_nn hok ex q1.1 c_77).symm, q1.2.trans (oN_ok hok ex).symm⟩, rfl, k1⟩)
            · refine ev_bipush (v := (-20)) rfl rfl (by decide) ?_
              refine ev_iload rfl rfl rfl ?_
              refine ev_iadd rfl rfl ?_
              refine ev_goto rfl rfl ?_
              exact ev_iret rfl rfl rfl (⟨⟨_, rfl, oC_neg hok ex q1.1 c_77, q1.2.trans (oN_ok hok ex).symm⟩, rfl, k1⟩)
        · refine ev_bipush (v := (-12)) rfl rfl (by decide) ?_
          exact ev_iret rfl rfl rfl (⟨⟨_, rfl, by unfold oC; rw [if_neg (c4_no (hB 62 k) c_18bbb (by decide))], by unfold oN; rw [if_neg (c4_no (hB 62 k) c_18bbb (by decide))]⟩, rfl, JW.refl hB⟩)
      · refine ev_bipush (v := (-12)) rfl rfl (by decide) ?_
        exact ev_iret rfl rfl rfl (⟨⟨_, rfl, by unfold oC; rw [if_neg (c4_no (hB 62 k) c_18bb (by decide))], by unfold oN; rw [if_neg (c4_no (hB 62 k) c_18bb (by decide))]⟩, rfl, JW.refl hB⟩)
    · refine ev_bipush (v := (-12)) rfl rfl (by decide) ?_
      exact ev_iret rfl rfl rfl (⟨⟨_, rfl, by unfold oC; rw [if_neg (c4_no (hB 62 k) c_18b (by decide))], by unfold oN; rw [if_neg (c4_no (hB 62 k) c_18b (by decide))]⟩, rfl, JW.refl hB⟩)
  · refine ev_bipush (v := (-12)) rfl rfl (by decide) ?_
    exact ev_iret rfl rfl rfl (⟨⟨_, rfl, by unfold oC; rw [if_neg (c4_no (hB 62 k) c_18 (by decide))], by unfold oN; rw [if_neg (c4_no (hB 62 k) c_18 (by decide))]⟩, rfl, JW.refl hB⟩)

theorem zA_nn {w n d s : Int32} (hw : B w 0 12) (q1 : ¬ z_wi n 0 3600 = 0) (q2 : ¬ z_wi d 1 9 = 0) (q3 : ¬ z_wi s 0 20 = 0) (q4 : w < 12) : ¬ zA w n d s < 0 := by
  unfold zA
  rw [if_neg q1, if_neg q2, if_neg q3, if_pos q4]
  have b1 : B w 0 11 := R_ltX hw (by decide : B 12 12 12) q4 (by decide)
  have b2 := (B.add b1 (by decide : B 1 1 1) (by decide) (by decide)).1
  have b3 := (B.sub b2 (by decide : B 1 1 1) (by decide) (by decide)).1
  exact D_nlt b3 (by decide : B 0 0 0) (by decide)
theorem zA_m20 {w n d s : Int32} (hw : B w 0 12) (q : zA w n d s < 0) : -20 + zA w n d s < 0 := by
  by_cases q1 : z_wi n 0 3600 = 0
  · unfold zA; rw [if_pos q1]; decide
  · by_cases q2 : z_wi d 1 9 = 0
    · unfold zA; rw [if_neg q1, if_pos q2]; decide
    · by_cases q3 : z_wi s 0 20 = 0
      · unfold zA; rw [if_neg q1, if_neg q2, if_pos q3]; decide
      · by_cases q4 : w < 12
        · exact absurd q (zA_nn hw q1 q2 q3 q4)
        · unfold zA; rw [if_neg q1, if_neg q2, if_neg q3, if_neg q4]; decide
/-- scan()'s rows from the i-th on, t of them: the answer (negative: a fault), else the new number -/
def sc (c : Nat → Int32) (s f : Int32) : Nat → Nat → Int32 → Int32
  | 0, _, w => w
  | t + 1, i, w => if oC c s (f + 4 * nI i) w < 0 then oC c s (f + 4 * nI i) w else sc c s f t (i + 1) (oN c s (f + 4 * nI i) w)
theorem oC_oN {c : Nat → Int32} {s a w : Int32} (hw : B w 0 12) (h : ¬ oC c s a w < 0) : oC c s a w = oN c s a w := by
  by_cases q : 0 ≤ a.toInt ∧ a.toInt + 4 ≤ s.toInt
  · by_cases q2 : zA w (c a.toNatClampNeg) (c (a.toNatClampNeg + 1)) (c (a.toNatClampNeg + 2)) < 0
    · exfalso
      apply h
      unfold oC
      rw [if_pos q, if_pos q2]
      exact zA_m20 hw q2
    · unfold oC oN
      rw [if_pos q, if_pos q, if_neg q2]
  · exfalso
    apply h
    unfold oC
    rw [if_neg q]
    decide
theorem sc_neg {c : Nat → Int32} {s f w v : Int32} {t i : Nat} (e : v = oC c s (f + 4 * nI i) w) (hv : v < 0) : v = sc c s f (t + 1) i w := by
  unfold sc
  rw [← e, if_pos hv]
theorem sc_negN {c : Nat → Int32} {s f w v w0 : Int32} {t i : Nat} (e : v = oC c s (f + 4 * nI i) w) (hv : v < 0) : w0 = if sc c s f (t + 1) i w < 0 then w0 else sc c s f (t + 1) i w := by
  rw [← sc_neg (t := t) e hv, if_pos hv]
theorem sc_s {c : Nat → Int32} {s f w : Int32} {t i : Nat} (e : ¬ oC c s (f + 4 * nI i) w < 0) : sc c s f t (i + 1) (oN c s (f + 4 * nI i) w) = sc c s f (t + 1) i w := by
  conv => rhs; unfold sc
  rw [if_neg e]
theorem wmC {k : Nat} (hk : k < 4) (j : Nat) : wm [(4, 7), (5, 999), (6, 999), (7, 999), (8, 999)] (57 + k) j = false := by
  rcases (show k = 0 ∨ k = 1 ∨ k = 2 ∨ k = 3 by omega) with rfl | rfl | rfl | rfl <;> rfl

set_option maxRecDepth 100000 in
set_option maxHeartbeats 4000000 in
theorem l_scanN (L : Nat) (b : Bool) (h h1 : Hp) (hJ : JW [(4, 7), (5, 999), (6, 999), (7, 999), (8, 999)] h h1) (k l f n u w0 v ii : Int32) (hw0 : B w0 0 12) (hv : v < 0) : EvQ mi_X9_scan 73 [some (.ref 1), some (.int k), some (.int l), some (.int f), some (.int n), some (.int u), some (.int w0), some (.int v), some (.int ii)] [] (G0 L b) h1 0 0 (QI (fun r z => r = v ∧ z 4 7 = w0) [(4, 7), (5, 999), (6, 999), (7, 999), (8, 999)] (G0 L b) h) := by
  refine ev_iload rfl rfl rfl ?_
  refine ev_iload rfl rfl rfl ?_
  refine ev_icmp_ge rfl rfl (fun c_77 => ?_) (fun c_77 => ?_)
  · refine ev_iload rfl rfl rfl ?_
    refine ev_if_ge rfl rfl (fun z_ => absurd z_ (Int32.not_le.mpr hv)) (fun c_106 => ?_)
    refine ev_aload_n rfl rfl rfl ?_
    refine ev_getR rfl rfl fl_X9_22 rfl rfl rfl rfl ?_
    refine ev_iload rfl rfl rfl ?_
    refine ev_putI rfl rfl fl_X9_158 rfl rfl rfl rfl rfl ?_
    refine ev_iload rfl rfl rfl ?_
    exact ev_iret rfl rfl rfl (⟨⟨_, rfl, rfl, ev_rd1 _ _ _ _⟩, rfl, hJ.set rfl hw0⟩)
  · refine ev_iload rfl rfl rfl ?_
    refine ev_if_lt rfl rfl (fun c_82 => ?_) (fun z_ => absurd hv z_)
    refine ev_iload rfl rfl rfl ?_
    refine ev_if_ge rfl rfl (fun z_ => absurd z_ (Int32.not_le.mpr hv)) (fun c_106 => ?_)
    refine ev_aload_n rfl rfl rfl ?_
    refine ev_getR rfl rfl fl_X9_22 rfl rfl rfl rfl ?_
    refine ev_iload rfl rfl rfl ?_
    refine ev_putI rfl rfl fl_X9_158 rfl rfl rfl rfl rfl ?_
    refine ev_iload rfl rfl rfl ?_
    exact ev_iret rfl rfl rfl (⟨⟨_, rfl, rfl, ev_rd1 _ _ _ _⟩, rfl, hJ.set rfl hw0⟩)

set_option maxRecDepth 100000 in
set_option maxHeartbeats 4000000 in
theorem l_scan (L : Nat) (b : Bool) (h : Hp) (k : Nat) (hk : k < 4) (l f u w0 : Int32) (hw0 : B w0 0 12) (n : Nat) (hn : n ≤ 12) : ∀ (t i : Nat) (h1 : Hp) (w : Int32), i + t = n → JW [(4, 7), (5, 999), (6, 999), (7, 999), (8, 999)] h h1 → h1 4 7 = w → EvQ mi_X9_scan 73 [some (.ref 1), some (.int (nI k)), some (.int l), some (.int f), some (.int (nI n)), some (.int u), some (.int w0), some (.int w), some (.int (nI i))] [] (G0 L b) h1 0 0 (QI (fun r z => r = sc (h (57 + k)) (h 62 k) f t i w ∧ z 4 7 = if sc (h (57 + k)) (h 62 k) f t i w < 0 then w0 else sc (h (57 + k)) (h 62 k) f t i w) [(4, 7), (5, 999), (6, 999), (7, 999), (8, 999)] (G0 L b) h) := by
  intro t
  induction t with
  | zero =>
    intro i h1 w hi hJ hw
    have bw : B w 0 12 := by rw [← hw]; exact hJ.1 4 7
    have hwn : ¬ w < 0 := D_nlt bw (by decide : B 0 0 0) (by decide)
    have fr : h1 (57 + k) = h (57 + k) := funext (fun j => hJ.2 (57 + k) j (wmC hk j))
    have fs : h1 62 k = h 62 k := hJ.2 62 k rfl
    have hi2 : i = n := by omega
    subst hi2
    refine ev_iload rfl rfl rfl ?_
    refine ev_iload rfl rfl rfl ?_
    refine ev_icmp_ge rfl rfl (fun c_77 => ?_) (fun z_ => absurd (Int32.le_refl _) z_)
    refine ev_iload rfl rfl rfl ?_
    refine ev_if_ge rfl rfl (fun c_106 => ?_) (fun z_ => absurd (Int32.not_lt.mp hwn) z_)
    refine ev_iload rfl rfl rfl ?_
    exact ev_iret rfl rfl rfl (⟨⟨_, rfl, rfl, by show h1 4 7 = if w < 0 then w0 else w; rw [if_neg hwn]; exact hw⟩, rfl, hJ⟩)
  | succ t ih =>
    intro i h1 w hi hJ hw
    have bw : B w 0 12 := by rw [← hw]; exact hJ.1 4 7
    have hwn : ¬ w < 0 := D_nlt bw (by decide : B 0 0 0) (by decide)
    have fr : h1 (57 + k) = h (57 + k) := funext (fun j => hJ.2 (57 + k) j (wmC hk j))
    have fs : h1 62 k = h 62 k := hJ.2 62 k rfl
    refine ev_iload rfl rfl rfl ?_
    refine ev_iload rfl rfl rfl ?_
    refine ev_icmp_ge rfl rfl (fun z_ => absurd z_ (show ¬ nI n ≤ nI i from nI_ge (by omega) (by omega))) (fun c_77 => ?_)
    refine ev_iload rfl rfl rfl ?_
    refine ev_if_lt rfl rfl (fun z_ => absurd z_ hwn) (fun c_82 => ?_)
    refine ev_aload_n rfl rfl rfl ?_
    refine ev_iload_n rfl rfl rfl ?_
    refine ev_iload_n rfl rfl rfl ?_
    refine ev_iconst (v := 4) rfl rfl (by decide) ?_
    refine ev_iload rfl rfl rfl ?_
    refine ev_imul rfl rfl ?_
    refine ev_iadd rfl rfl ?_
    refine ev_V2I hJ rfl rfl rfl lk_X9_332 vt_X9_scanOne rfl rfl rfl rfl rfl (w_scanOneX L b h1 hJ.1 k hk (f + 4 * nI i)) (fun r1 h2 q1 j1 k1 => ?_)
    obtain ⟨e1, e2⟩ := q1
    rw [fr, fs, hw] at e1 e2
    refine ev_istore rfl rfl rfl rfl ?_
    dsimp only [List.set]
    refine ev_iinc (y := 1) rfl rfl rfl (by decide) rfl rfl ?_
    dsimp only [List.set]
    refine ev_goto rfl rfl ?_
    rw [nI_1 i]
    by_cases c_ : r1 < 0
    · refine EvQ.mono (l_scanN L b h h2 j1 _ _ _ _ _ _ _ _ hw0 c_) (Nat.le_refl _) (Nat.le_refl _) (fun v G' h' z => ?_)
      obtain ⟨⟨r, ev, er, ez⟩, eg, ej⟩ := z
      exact ⟨⟨r, ev, er.trans (sc_neg e1 c_), ez.trans (sc_negN e1 c_)⟩, eg, ej⟩
    · have e3 : ¬ oC (h (57 + k)) (h 62 k) (f + 4 * nI i) w < 0 := by rw [← e1]; exact c_
      have e4 := oC_oN bw e3
      have z_ := ih (i + 1) h2 r1 (by omega) j1 (by rw [e2, e1, e4])
      rw [show r1 = oN (h (57 + k)) (h 62 k) (f + 4 * nI i) w from e1.trans e4] at z_ ⊢
      rw [sc_s e3] at z_
      exact z_

def scRc (h : Hp) (k l f n : Int32) : Int32 := if z_has k 4 = 0 then -1 else if z_wi l 0 2 = 0 then -1 else if z_wi n 0 12 = 0 then -1 else if z_fas (h 62 k.toNatClampNeg) (h 61 k.toNatClampNeg) l = 0 then sc (h (57 + k.toNatClampNeg)) (h 62 k.toNatClampNeg) f n.toNatClampNeg 0 (h 4 7) else -10 - z_fas (h 62 k.toNatClampNeg) (h 61 k.toNatClampNeg) l
def scNc (h : Hp) (k l f n : Int32) : Int32 := if z_has k 4 = 0 then h 4 7 else if z_wi l 0 2 = 0 then h 4 7 else if z_wi n 0 12 = 0 then h 4 7 else if z_fas (h 62 k.toNatClampNeg) (h 61 k.toNatClampNeg) l = 0 then (if sc (h (57 + k.toNatClampNeg)) (h 62 k.toNatClampNeg) f n.toNatClampNeg 0 (h 4 7) < 0 then h 4 7 else sc (h (57 + k.toNatClampNeg)) (h 62 k.toNatClampNeg) f n.toNatClampNeg 0 (h 4 7)) else h 4 7

set_option maxRecDepth 100000 in
set_option maxHeartbeats 4000000 in
theorem w_scanX (L : Nat) (b : Bool) (h : Hp) (hB : Bx h) (k l f n : Int32) : EvI mi_X9_scan [.ref 1, .int k, .int l, .int f, .int n] (G0 L b) h (fun r z => r = scRc h k l f n ∧ z 4 7 = scNc h k l f n) [(4, 7), (5, 999), (6, 999), (7, 999), (8, 999)] := by
  refine EvM.of2 (lo := [some (.ref 1), some (.int k), some (.int l), some (.int f), some (.int n), none, none, none, none]) pf_X9_scan ok_X9_scan rfl rfl ?_
  refine ev_aload_n rfl rfl rfl ?_
  refine ev_getR rfl rfl fl_X9_71 rfl rfl rfl rfl ?_
  refine ev_iload_n rfl rfl rfl ?_
  refine ev_V1D rfl rfl lk_X9_255 vt_X5_has rfl rfl rfl rfl rfl (c_X5_has _ _ _ _) ?_
  refine ev_if_eq rfl rfl (fun c_8 => ?_) (fun c_8 => ?_)
  · refine ev_iconst (v := (-1)) rfl rfl (by decide) ?_
    exact ev_iret rfl rfl rfl (⟨⟨_, rfl, by simp only [scRc, if_pos c_8], by simp only [scNc, if_pos c_8]⟩, rfl, JW.refl hB⟩)
  · refine ev_aload_n rfl rfl rfl ?_
    refine ev_getR rfl rfl fl_X9_71 rfl rfl rfl rfl ?_
    refine ev_iload_n rfl rfl rfl ?_
    refine ev_V1D rfl rfl lk_X9_256 vt_X5_isLane rfl rfl rfl rfl rfl (c_isLane _ _ _ _) ?_
    refine ev_if_eq rfl rfl (fun c_19 => ?_) (fun c_19 => ?_)
    · refine ev_iconst (v := (-1)) rfl rfl (by decide) ?_
      exact ev_iret rfl rfl rfl (⟨⟨_, rfl, by simp only [scRc, if_neg c_8, if_pos c_19], by simp only [scNc, if_neg c_8, if_pos c_19]⟩, rfl, JW.refl hB⟩)
    · refine ev_iload rfl rfl rfl ?_
      refine ev_iconst (v := 0) rfl rfl (by decide) ?_
      refine ev_bipush (v := 12) rfl rfl (by decide) ?_
      refine ev_S3D rfl rfl lk_X9_75 st_X9_isWithin rfl rfl (c_isWithin _ _ _ _ _) ?_
      refine ev_if_ne rfl rfl (fun c_30 => ?_) (fun c_30 => ?_)
      · obtain ⟨j, hj, rfl⟩ := z_hask (x := 4) (m := 4) (N := 4) rfl (Nat.le_refl _) (by decide) c_8
        have ej := nI_clamp (show j < 2 ^ 31 by omega)
        obtain ⟨m, hm, rfl⟩ : ∃ m : Nat, m ≤ 12 ∧ n = nI m := ⟨_, (B.nI (u := 12) (z_wi_B (by decide : B 0 0 0) (by decide : B 12 12 12) c_30)).2, (B.nI (u := 12) (z_wi_B (by decide : B 0 0 0) (by decide : B 12 12 12) c_30)).1⟩
        have em := nI_clamp (show m < 2 ^ 31 by omega)
        refine ev_aload_n rfl rfl rfl ?_
        refine ev_getR rfl rfl fl_X9_71 rfl rfl rfl rfl ?_
        refine ev_iload_n rfl rfl rfl ?_
        refine ev_iload_n rfl rfl rfl ?_
        refine ev_V2D rfl rfl lk_X9_259 vt_X5_faultAs rfl rfl rfl rfl rfl (c_faultAs _ _ _ j hj _) ?_
        refine ev_istore rfl rfl rfl rfl ?_
        dsimp only [List.set]
        refine ev_iload rfl rfl rfl ?_
        refine ev_if_eq rfl rfl (fun c_48 => ?_) (fun c_48 => ?_)
        · refine ev_aload_n rfl rfl rfl ?_
          refine ev_getR rfl rfl fl_X9_22 rfl rfl rfl rfl ?_
          refine ev_getI rfl rfl fl_X9_158 rfl rfl rfl ?_
          refine ev_istore rfl rfl rfl rfl ?_
          dsimp only [List.set]
          refine ev_iload rfl rfl rfl ?_
          refine ev_istore rfl rfl rfl rfl ?_
          dsimp only [List.set]
          refine ev_iconst (v := 0) rfl rfl (by decide) ?_
          refine ev_istore rfl rfl rfl rfl ?_
          dsimp only [List.set]
          refine EvQ.mono (l_scan L b h j hj l f _ (h 4 7) (hB 4 7) m hm m 0 h (h 4 7) (by omega) (JW.refl hB) rfl) (Nat.le_refl _) (Nat.le_refl _) (fun v G' h' z => ?_)
          obtain ⟨⟨r, ev, er, ez⟩, eg, ej2⟩ := z
          exact ⟨⟨r, ev, er.trans (by simp only [scRc, if_neg c_8, if_neg c_19, if_neg c_30, if_pos c_48, ej, em]), ez.trans (by simp only [scNc, if_neg c_8, if_neg c_19, if_neg c_30, if_pos c_48, ej, em])⟩, eg, ej2⟩
        · refine ev_bipush (v := (-10)) rfl rfl (by decide) ?_
          refine ev_iload rfl rfl rfl ?_
          refine ev_isub rfl rfl ?_
          exact ev_iret rfl rfl rfl (⟨⟨_, rfl, by simp only [scRc, if_neg c_8, if_neg c_19, if_neg c_30, if_neg c_48, ej], by simp only [scNc, if_neg c_8, if_neg c_19, if_neg c_30, if_neg c_48, ej]⟩, rfl, JW.refl hB⟩)
      · refine ev_iconst (v := (-1)) rfl rfl (by decide) ?_
        exact ev_iret rfl rfl rfl (⟨⟨_, rfl, by simp only [scRc, if_neg c_8, if_neg c_19, if_pos c_30], by simp only [scNc, if_neg c_8, if_neg c_19, if_pos c_30]⟩, rfl, JW.refl hB⟩)

theorem fi_to (f : Int32) {i : Nat} (hi : i < 12) : (f + 4 * nI i).toInt = f.toInt + 4 * (i : Int) ∨ (2147483647 < f.toInt + 4 * (i : Int) ∧ (f + 4 * nI i).toInt < 0) := by
  have e : (4 * nI i : Int32).toInt = 4 * (i : Int) := by
    rw [show (4 : Int32) * nI i = nI (4 * i) from nI_mul 4 i, nI_toInt (by omega)]
    omega
  have h1 := Int32.le_toInt f
  have h2 := Int32.toInt_lt f
  by_cases q : f.toInt + 4 * (i : Int) ≤ 2147483647
  · exact Or.inl (by rw [w_add (by omega) (by omega), e])
  · refine Or.inr ⟨by omega, ?_⟩
    rw [Int32.toInt_add, e, Int.bmod_def]
    split <;> omega
theorem ms_p (f : Int32) {i : Nat} (hi : i < 12) : (f.toInt64 + (4 * nI i : Int32).toInt64).toInt = f.toInt + 4 * (i : Int) := by
  have e : (4 * nI i : Int32).toInt = 4 * (i : Int) := by
    rw [show (4 : Int32) * nI i = nI (4 * i) from nI_mul 4 i, nI_toInt (by omega)]
    omega
  have h1 := Int32.le_toInt f
  have h2 := Int32.toInt_lt f
  have e1 := Int32.toInt_toInt64 f
  have e2 := Int32.toInt_toInt64 (4 * nI i)
  rw [l_add _ _ (by omega) (by omega) (by omega) (by omega)]
  omega
theorem ms_no1 {f s : Int32} {i : Nat} (hi : i < 12) (c : lg_cmp (f.toInt64 + (4 * nI i : Int32).toInt64) 0 < 0) : ¬ (0 ≤ (f + 4 * nI i).toInt ∧ (f + 4 * nI i).toInt + 4 ≤ s.toInt) := by
  have e := ms_p f hi
  have z := (l_cmp (f.toInt64 + (4 * nI i : Int32).toInt64) 0).1
  have e0 : (0 : Int32).toInt = 0 := by decide
  have e1 : (0 : Int64).toInt = 0 := by decide
  have c1 := w_lt c
  have z1 := z.mp (by omega)
  rcases fi_to f hi with q | q <;> omega
theorem ms_no2 {f s : Int32} {i : Nat} (hi : i < 12) (hs : B s 0 60) (c : ¬ lg_cmp (f.toInt64 + (4 * nI i : Int32).toInt64 + 4) s.toInt64 ≤ 0) : ¬ (0 ≤ (f + 4 * nI i).toInt ∧ (f + 4 * nI i).toInt + 4 ≤ s.toInt) := by
  have e := ms_p f hi
  have z := (l_cmp (f.toInt64 + (4 * nI i : Int32).toInt64 + 4) s.toInt64).2
  have e0 : (0 : Int32).toInt = 0 := by decide
  have e4 : (4 : Int64).toInt = 4 := by decide
  have h1 := Int32.le_toInt f
  have h2 := Int32.toInt_lt f
  have es := Int32.toInt_toInt64 s
  have ea := l_add (f.toInt64 + (4 * nI i : Int32).toInt64) 4 (by omega) (by omega) (by omega) (by omega)
  have c1 := w_lt (Int32.not_le.mp c)
  have z1 := z.mp (by omega)
  have h3 := hs.2
  rcases fi_to f hi with q | q <;> omega
theorem ms_ok {f s : Int32} {i : Nat} (hi : i < 12) (hs : B s 0 60) (c : ¬ lg_cmp (f.toInt64 + (4 * nI i : Int32).toInt64) 0 < 0) (c2 : lg_cmp (f.toInt64 + (4 * nI i : Int32).toInt64 + 4) s.toInt64 ≤ 0) : ∃ x : Nat, x + 4 ≤ 60 ∧ (f.toInt64 + (4 * nI i : Int32).toInt64).toInt32 = nI x ∧ (f + 4 * nI i).toNatClampNeg = x ∧ (0 ≤ (f + 4 * nI i).toInt ∧ (f + 4 * nI i).toInt + 4 ≤ s.toInt) := by
  have e := ms_p f hi
  have z := (l_cmp (f.toInt64 + (4 * nI i : Int32).toInt64) 0).1
  have z2 := (l_cmp (f.toInt64 + (4 * nI i : Int32).toInt64 + 4) s.toInt64).2
  have e0 : (0 : Int32).toInt = 0 := by decide
  have e1 : (0 : Int64).toInt = 0 := by decide
  have e4 : (4 : Int64).toInt = 4 := by decide
  have h1 := Int32.le_toInt f
  have h2 := Int32.toInt_lt f
  have es := Int32.toInt_toInt64 s
  have ea := l_add (f.toInt64 + (4 * nI i : Int32).toInt64) 4 (by omega) (by omega) (by omega) (by omega)
  have c3 := w_nlt c
  have c4 := w_le c2
  have h3 := hs.2
  have g1 : 0 ≤ f.toInt + 4 * (i : Int) := by
    refine Int.not_lt.mp (fun q => ?_)
    have := z.mpr (by omega)
    omega
  have g2 : f.toInt + 4 * (i : Int) + 4 ≤ s.toInt := by
    refine Int.not_lt.mp (fun q => ?_)
    have := z2.mpr (by omega)
    omega
  have ef : (f + 4 * nI i).toInt = f.toInt + 4 * (i : Int) := by
    rcases fi_to f hi with q | q
    · exact q
    · omega
  have el := l_2i (f.toInt64 + (4 * nI i : Int32).toInt64) (by omega) (by omega)
  have p : B (f + 4 * nI i) 0 ((56 : Nat) : Int) := ⟨by omega, by omega⟩
  refine ⟨(f + 4 * nI i).toNatClampNeg, by have := (B.nI p).2; omega, ?_, rfl, by omega, by omega⟩
  rw [← (B.nI p).1]
  exact Int32.toInt_inj.mp (by omega)

set_option maxRecDepth 100000 in
set_option maxHeartbeats 4000000 in
theorem l_mscanN (L : Nat) (b : Bool) (h h1 : Hp) (hJ : JW [(63, 5), (64, 999), (65, 999), (66, 999), (67, 999), (68, 999), (69, 999), (70, 999)] h h1) (k l f n w0 v ii : Int32) (hw0 : B w0 0 12) (hv : v < 0) : EvQ mi_X10_scan 64 [some (.ref 63), some (.int k), some (.int l), some (.int f), some (.int n), some (.int w0), some (.int v), some (.int ii), none, none, none, none] [] (G0 L b) h1 0 0 (QI (fun r z => r = v ∧ z 63 5 = w0) [(63, 5), (64, 999), (65, 999), (66, 999), (67, 999), (68, 999), (69, 999), (70, 999)] (G0 L b) h) := by
  have hv0 : ¬ v = 0 := fun e_ => by rw [e_] at hv; exact absurd hv (by decide)
  refine ev_iload rfl rfl rfl ?_
  refine ev_iload rfl rfl rfl ?_
  refine ev_icmp_ge rfl rfl (fun c_68 => ?_) (fun c_68 => ?_)
  · refine ev_aload_n rfl rfl rfl ?_
    refine ev_iload rfl rfl rfl ?_
    refine ev_if_ge rfl rfl (fun z_ => absurd z_ (Int32.not_le.mpr hv)) (fun c_200 => ?_)
    refine ev_iload rfl rfl rfl ?_
    refine ev_goto rfl rfl ?_
    refine ev_putI rfl rfl fl_X10_121 rfl rfl rfl rfl rfl ?_
    refine ev_iload rfl rfl rfl ?_
    refine ev_if_ge rfl rfl (fun z_ => absurd z_ (Int32.not_le.mpr hv)) (fun c_217 => ?_)
    refine ev_iload rfl rfl rfl ?_
    refine ev_goto rfl rfl ?_
    exact ev_iret rfl rfl rfl (⟨⟨_, rfl, rfl, ev_rd1 _ _ _ _⟩, rfl, hJ.set rfl hw0⟩)
  · refine ev_iload rfl rfl rfl ?_
    refine ev_if_ne rfl rfl (fun c_73 => ?_) (fun z_ => absurd z_ hv0)
    refine ev_aload_n rfl rfl rfl ?_
    refine ev_iload rfl rfl rfl ?_
    refine ev_if_ge rfl rfl (fun z_ => absurd z_ (Int32.not_le.mpr hv)) (fun c_200 => ?_)
    refine ev_iload rfl rfl rfl ?_
    refine ev_goto rfl rfl ?_
    refine ev_putI rfl rfl fl_X10_121 rfl rfl rfl rfl rfl ?_
    refine ev_iload rfl rfl rfl ?_
    refine ev_if_ge rfl rfl (fun z_ => absurd z_ (Int32.not_le.mpr hv)) (fun c_217 => ?_)
    refine ev_iload rfl rfl rfl ?_
    refine ev_goto rfl rfl ?_
    exact ev_iret rfl rfl rfl (⟨⟨_, rfl, rfl, ev_rd1 _ _ _ _⟩, rfl, hJ.set rfl hw0⟩)

set_option maxRecDepth 100000 in
set_option maxHeartbeats 4000000 in
theorem l_mscan (L : Nat) (b : Bool) (h : Hp) (hB : Bx h) (k : Nat) (hk : k < 4) (l f w0 : Int32) (hw0 : B w0 0 12) (n : Nat) (hn : n ≤ 12) : ∀ (t i : Nat) (h1 : Hp) (w : Int32), i + t = n → JW [(63, 5), (64, 999), (65, 999), (66, 999), (67, 999), (68, 999), (69, 999), (70, 999)] h h1 → h1 63 5 = w → EvQ mi_X10_scan 64 [some (.ref 63), some (.int (nI k)), some (.int l), some (.int f), some (.int (nI n)), some (.int w0), some (.int 0), some (.int (nI i)), none, none, none, none] [] (G0 L b) h1 0 0 (QI (fun r z => r = sc (fun y => h 94 (60 * k + y)) (h 93 k) f t i w ∧ z 63 5 = if sc (fun y => h 94 (60 * k + y)) (h 93 k) f t i w < 0 then w0 else sc (fun y => h 94 (60 * k + y)) (h 93 k) f t i w) [(63, 5), (64, 999), (65, 999), (66, 999), (67, 999), (68, 999), (69, 999), (70, 999)] (G0 L b) h) := by
  intro t
  induction t with
  | zero =>
    intro i h1 w hi hJ hw
    have bw : B w 0 12 := by rw [← hw]; exact hJ.1 63 5
    have hwn : ¬ w < 0 := D_nlt bw (by decide : B 0 0 0) (by decide)
    have fs : h1 93 k = h 93 k := hJ.2 93 k rfl
    have hi2 : i = n := by omega
    subst hi2
    refine ev_iload rfl rfl rfl ?_
    refine ev_iload rfl rfl rfl ?_
    refine ev_icmp_ge rfl rfl (fun c_68 => ?_) (fun z_ => absurd (Int32.le_refl _) z_)
    refine ev_aload_n rfl rfl rfl ?_
    refine ev_iload rfl rfl rfl ?_
    refine ev_if_ge rfl rfl (fun c_200 => ?_) (fun z_ => absurd (by decide) z_)
    refine ev_aload_n rfl rfl rfl ?_
    refine ev_getI rfl rfl fl_X10_121 rfl rfl rfl ?_
    refine ev_putI rfl rfl fl_X10_121 rfl rfl rfl rfl rfl ?_
    refine ev_iload rfl rfl rfl ?_
    refine ev_if_ge rfl rfl (fun c_217 => ?_) (fun z_ => absurd (by decide) z_)
    refine ev_aload_n rfl rfl rfl ?_
    refine ev_getI rfl rfl fl_X10_121 rfl rfl rfl ?_
    try simp (disch := decide) only [ev_rd1, ev_rd2]
    exact ev_iret rfl rfl rfl (⟨⟨_, rfl, hw, (ev_rd1 _ _ _ _).trans (hw.trans (if_neg hwn).symm)⟩, rfl, hJ.set rfl (hJ.1 63 5)⟩)
  | succ t ih =>
    intro i h1 w hi hJ hw
    have bw : B w 0 12 := by rw [← hw]; exact hJ.1 63 5
    have hwn : ¬ w < 0 := D_nlt bw (by decide : B 0 0 0) (by decide)
    have fs : h1 93 k = h 93 k := hJ.2 93 k rfl
    have hi12 : i < 12 := by omega
    refine ev_iload rfl rfl rfl ?_
    refine ev_iload rfl rfl rfl ?_
    refine ev_icmp_ge rfl rfl (fun z_ => absurd z_ (show ¬ nI n ≤ nI i from nI_ge (by omega) (by omega))) (fun c_68 => ?_)
    refine ev_iload rfl rfl rfl ?_
    refine ev_if_ne rfl rfl (fun z_ => absurd (by decide) z_) (fun c_73 => ?_)
    refine ev_iload_n rfl rfl rfl ?_
    refine ev_i2l rfl rfl ?_
    refine ev_iconst (v := 4) rfl rfl (by decide) ?_
    refine ev_iload rfl rfl rfl ?_
    refine ev_imul rfl rfl ?_
    refine ev_i2l rfl rfl ?_
    refine ev_ladd rfl rfl ?_
    refine ev_lstore rfl rfl rfl rfl ?_
    dsimp only [List.set]
    refine ev_lload rfl rfl rfl ?_
    refine ev_lconst (v := 0) rfl rfl rfl ?_
    refine ev_lcmp rfl rfl ?_
    refine ev_if_lt rfl rfl (fun c_90 => ?_) (fun c_90 => ?_)
    · refine ev_bipush (v := (-12)) rfl rfl (by decide) ?_
      refine ev_istore rfl rfl rfl rfl ?_
      dsimp only [List.set]
      refine ev_goto rfl rfl ?_
      refine ev_iinc (y := 1) rfl rfl rfl (by decide) rfl rfl ?_
      dsimp only [List.set]
      refine ev_goto rfl rfl ?_
      have eo : -12 = oC (fun y => h 94 (60 * k + y)) (h 93 k) (f + 4 * nI i) w := by unfold oC; rw [if_neg (ms_no1 hi12 c_90)]
      rw [nI_1 i]
      refine (EvQ.drop 8 (EvQ.mono (l_mscanN L b h h1 hJ _ _ _ _ w0 (-12) _ hw0 (by decide)) (Nat.le_refl _) (Nat.le_refl _) (fun v G' h' z => ?_)))
      obtain ⟨⟨r, ev, er, ez⟩, eg, ej⟩ := z
      exact ⟨⟨r, ev, er.trans (sc_neg eo (by decide)), ez.trans (sc_negN eo (by decide))⟩, eg, ej⟩
    · refine ev_lload rfl rfl rfl ?_
      refine ev_ldc2 rfl rfl kc_X10_360 ?_
      refine ev_ladd rfl rfl ?_
      refine ev_aload_n rfl rfl rfl ?_
      refine ev_getR rfl rfl fl_X10_115 rfl rfl rfl rfl ?_
      refine ev_iload_n rfl rfl rfl ?_
      refine ev_iald rfl rfl rfl (vp_in_nI (by omega) (by decide)) (nI_clamp (by omega)) ?_
      refine ev_i2l rfl rfl ?_
      refine ev_lcmp rfl rfl ?_
      refine ev_if_le rfl rfl (fun c_107 => ?_) (fun c_107 => ?_)
      · obtain ⟨x, hx, e32, ex, hok⟩ := ms_ok hi12 (hB 93 k) c_90 (by rw [← fs]; exact c_107)
        refine ev_bipush (v := 60) rfl rfl (by decide) ?_
        refine ev_iload_n rfl rfl rfl ?_
        refine ev_imul rfl rfl ?_
        refine ev_lload rfl rfl rfl ?_
        refine ev_l2i rfl rfl ?_
        rw [e32]
        refine ev_iadd rfl rfl ?_
        rw [show (60 : Int32) * nI k + nI x = nI (60 * k + x) from by rw [show (60 : Int32) * nI k = nI (60 * k) from nI_mul 60 k, nI_add]]
        refine ev_istore rfl rfl rfl rfl ?_
        dsimp only [List.set]
        refine ev_aload_n rfl rfl rfl ?_
        refine ev_aload_n rfl rfl rfl ?_
        refine ev_getR rfl rfl fl_X10_118 rfl rfl rfl rfl ?_
        refine ev_iload rfl rfl rfl ?_
        refine ev_iald (j := 60 * k + x) rfl rfl rfl (vp_in_nI (by omega) (by decide)) (nI_clamp (by omega)) ?_
        refine ev_aload_n rfl rfl rfl ?_
        refine ev_getR rfl rfl fl_X10_118 rfl rfl rfl rfl ?_
        refine ev_iload rfl rfl rfl ?_
        refine ev_iconst (v := 1) rfl rfl (by decide) ?_
        refine ev_iadd rfl rfl ?_
        refine ev_iald (j := 60 * k + x + 1) rfl rfl rfl (by rw [show nI (60 * k + x) + 1 = nI (60 * k + x + 1) from nI_add _ 1]; exact vp_in_nI (by omega) (by decide)) (by rw [show nI (60 * k + x) + 1 = nI (60 * k + x + 1) from nI_add _ 1]; exact nI_clamp (by omega)) ?_
        refine ev_aload_n rfl rfl rfl ?_
        refine ev_getR rfl rfl fl_X10_118 rfl rfl rfl rfl ?_
        refine ev_iload rfl rfl rfl ?_
        refine ev_iconst (v := 2) rfl rfl (by decide) ?_
        refine ev_iadd rfl rfl ?_
        refine ev_iald (j := 60 * k + x + 2) rfl rfl rfl (by rw [show nI (60 * k + x) + 2 = nI (60 * k + x + 2) from nI_add _ 2]; exact vp_in_nI (by omega) (by decide)) (by rw [show nI (60 * k + x) + 2 = nI (60 * k + x + 2) from nI_add _ 2]; exact nI_clamp (by omega)) ?_
        refine ev_aload_n rfl rfl rfl ?_
        refine ev_getR rfl rfl fl_X10_118 rfl rfl rfl rfl ?_
        refine ev_iload rfl rfl rfl ?_
        refine ev_iconst (v := 3) rfl rfl (by decide) ?_
        refine ev_iadd rfl rfl ?_
        refine ev_iald (j := 60 * k + x + 3) rfl rfl rfl (by rw [show nI (60 * k + x) + 3 = nI (60 * k + x + 3) from nI_add _ 3]; exact vp_in_nI (by omega) (by decide)) (by rw [show nI (60 * k + x) + 3 = nI (60 * k + x + 3) from nI_add _ 3]; exact nI_clamp (by omega)) ?_
        refine ev_if_eq rfl rfl (fun c_162 => ?_) (fun c_162 => ?_)
        · refine ev_iconst (v := 0) rfl rfl (by decide) ?_
          refine ev_V4I hJ rfl rfl rfl lk_X10_362 vt_X10_whistle rfl rfl rfl rfl rfl (w_mwhX L b h1 hJ.1 _ _ _ _ (by decide)) (fun r1 h2 q1 j1 k1 => ?_)
          obtain ⟨q1a, q1b⟩ := q1
          rw [hw, hJ.2 94 (60 * k + x) rfl, hJ.2 94 (60 * k + x + 1) rfl, hJ.2 94 (60 * k + x + 2) rfl] at q1a q1b
          refine ev_istore rfl rfl rfl rfl ?_
          dsimp only [List.set]
          refine ev_iload rfl rfl rfl ?_
          refine ev_if_ge rfl rfl (fun c_177 => ?_) (fun c_177 => ?_)
          · refine ev_iconst (v := 0) rfl rfl (by decide) ?_
            refine ev_istore rfl rfl rfl rfl ?_
            dsimp only [List.set]
            refine ev_iinc (y := 1) rfl rfl rfl (by decide) rfl rfl ?_
            dsimp only [List.set]
            refine ev_goto rfl rfl ?_
            have e3 := oC_nn (c := fun y => h 94 (60 * k + y)) (s := h 93 k) hok ex q1a c_177
            have e4 : oN (fun y => h 94 (60 * k + y)) (h 93 k) (f + 4 * nI i) w = h2 63 5 := (oN_ok (c := fun y => h 94 (60 * k + y)) hok ex).trans q1b.symm
            have e5 : ¬ oC (fun y => h 94 (60 * k + y)) (h 93 k) (f + 4 * nI i) w < 0 := by
              rw [show oC (fun y => h 94 (60 * k + y)) (h 93 k) (f + 4 * nI i) w = h2 63 5 from e3.trans q1b.symm]
              exact D_nlt (show B (h2 63 5) 0 12 from j1.1 63 5) (by decide : B 0 0 0) (by decide)
            have z_ := ih (i + 1) h2 (h2 63 5) (by omega) j1 rfl
            rw [← e4, sc_s e5] at z_
            rw [nI_1 i]
            exact EvQ.drop 11 (EvQ.drop 10 (EvQ.drop 8 z_))
          · refine ev_bipush (v := (-20)) rfl rfl (by decide) ?_
            refine ev_iload rfl rfl rfl ?_
            refine ev_iadd rfl rfl ?_
            refine ev_goto rfl rfl ?_
            refine ev_istore rfl rfl rfl rfl ?_
            dsimp only [List.set]
            refine ev_iinc (y := 1) rfl rfl rfl (by decide) rfl rfl ?_
            dsimp only [List.set]
            refine ev_goto rfl rfl ?_
            have eo : -20 + r1 = oC (fun y => h 94 (60 * k + y)) (h 93 k) (f + 4 * nI i) w := oC_neg (c := fun y => h 94 (60 * k + y)) (s := h 93 k) hok ex q1a c_177
            rw [nI_1 i]
            refine (EvQ.drop 8 (EvQ.drop 10 (EvQ.drop 11 (EvQ.mono (l_mscanN L b h h2 j1 _ _ _ _ w0 (-20 + r1) _ hw0 (by rw [q1a]; exact zA_m20 bw (by rw [← q1a]; exact Int32.not_le.mp c_177))) (Nat.le_refl _) (Nat.le_refl _) (fun v G' h' z => ?_)))))
            obtain ⟨⟨r, ev, er, ez⟩, eg, ej⟩ := z
            exact ⟨⟨r, ev, er.trans (sc_neg eo (by rw [q1a]; exact zA_m20 bw (by rw [← q1a]; exact Int32.not_le.mp c_177))), ez.trans (sc_negN eo (by rw [q1a]; exact zA_m20 bw (by rw [← q1a]; exact Int32.not_le.mp c_177)))⟩, eg, ej⟩
        · refine ev_iconst (v := 1) rfl rfl (by decide) ?_
          refine ev_goto rfl rfl ?_
          refine ev_V4I hJ rfl rfl rfl lk_X10_362 vt_X10_whistle rfl rfl rfl rfl rfl (w_mwhX L b h1 hJ.1 _ _ _ _ (by decide)) (fun r1 h2 q1 j1 k1 => ?_)
          obtain ⟨q1a, q1b⟩ := q1
          rw [hw, hJ.2 94 (60 * k + x) rfl, hJ.2 94 (60 * k + x + 1) rfl, hJ.2 94 (60 * k + x + 2) rfl] at q1a q1b
          refine ev_istore rfl rfl rfl rfl ?_
          dsimp only [List.set]
          refine ev_iload rfl rfl rfl ?_
          refine ev_if_ge rfl rfl (fun c_177 => ?_) (fun c_177 => ?_)
          · refine ev_iconst (v := 0) rfl rfl (by decide) ?_
            refine ev_istore rfl rfl rfl rfl ?_
            dsimp only [List.set]
            refine ev_iinc (y := 1) rfl rfl rfl (by decide) rfl rfl ?_
            dsimp only [List.set]
            refine ev_goto rfl rfl ?_
            have e3 := oC_nn (c := fun y => h 94 (60 * k + y)) (s := h 93 k) hok ex q1a c_177
            have e4 : oN (fun y => h 94 (60 * k + y)) (h 93 k) (f + 4 * nI i) w = h2 63 5 := (oN_ok (c := fun y => h 94 (60 * k + y)) hok ex).trans q1b.symm
            have e5 : ¬ oC (fun y => h 94 (60 * k + y)) (h 93 k) (f + 4 * nI i) w < 0 := by
              rw [show oC (fun y => h 94 (60 * k + y)) (h 93 k) (f + 4 * nI i) w = h2 63 5 from e3.trans q1b.symm]
              exact D_nlt (show B (h2 63 5) 0 12 from j1.1 63 5) (by decide : B 0 0 0) (by decide)
            have z_ := ih (i + 1) h2 (h2 63 5) (by omega) j1 rfl
            rw [← e4, sc_s e5] at z_
            rw [nI_1 i]
            exact EvQ.drop 11 (EvQ.drop 10 (EvQ.drop 8 z_))
          · refine ev_bipush (v := (-20)) rfl rfl (by decide) ?_
            refine ev_iload rfl rfl rfl ?_
            refine ev_iadd rfl rfl ?_
            refine ev_goto rfl rfl ?_
            refine ev_istore rfl rfl rfl rfl ?_
            dsimp only [List.set]
            refine ev_iinc (y := 1) rfl rfl rfl (by decide) rfl rfl ?_
            dsimp only [List.set]
            refine ev_goto rfl rfl ?_
            have eo : -20 + r1 = oC (fun y => h 94 (60 * k + y)) (h 93 k) (f + 4 * nI i) w := oC_neg (c := fun y => h 94 (60 * k + y)) (s := h 93 k) hok ex q1a c_177
            rw [nI_1 i]
            refine (EvQ.drop 8 (EvQ.drop 10 (EvQ.drop 11 (EvQ.mono (l_mscanN L b h h2 j1 _ _ _ _ w0 (-20 + r1) _ hw0 (by rw [q1a]; exact zA_m20 bw (by rw [← q1a]; exact Int32.not_le.mp c_177))) (Nat.le_refl _) (Nat.le_refl _) (fun v G' h' z => ?_)))))
            obtain ⟨⟨r, ev, er, ez⟩, eg, ej⟩ := z
            exact ⟨⟨r, ev, er.trans (sc_neg eo (by rw [q1a]; exact zA_m20 bw (by rw [← q1a]; exact Int32.not_le.mp c_177))), ez.trans (sc_negN eo (by rw [q1a]; exact zA_m20 bw (by rw [← q1a]; exact Int32.not_le.mp c_177)))⟩, eg, ej⟩
      · refine ev_bipush (v := (-12)) rfl rfl (by decide) ?_
        refine ev_istore rfl rfl rfl rfl ?_
        dsimp only [List.set]
        refine ev_goto rfl rfl ?_
        refine ev_iinc (y := 1) rfl rfl rfl (by decide) rfl rfl ?_
        dsimp only [List.set]
        refine ev_goto rfl rfl ?_
        have eo : -12 = oC (fun y => h 94 (60 * k + y)) (h 93 k) (f + 4 * nI i) w := by unfold oC; rw [if_neg (ms_no2 hi12 (hB 93 k) (by rw [← fs]; exact c_107))]
        rw [nI_1 i]
        refine (EvQ.drop 8 (EvQ.mono (l_mscanN L b h h1 hJ _ _ _ _ w0 (-12) _ hw0 (by decide)) (Nat.le_refl _) (Nat.le_refl _) (fun v G' h' z => ?_)))
        obtain ⟨⟨r, ev, er, ez⟩, eg, ej⟩ := z
        exact ⟨⟨r, ev, er.trans (sc_neg eo (by decide)), ez.trans (sc_negN eo (by decide))⟩, eg, ej⟩

def scRm (h : Hp) (k l f n : Int32) : Int32 := if z_sht k l = 0 then -1 else if z_wi n 0 12 = 0 then -1 else if h 92 k.toNatClampNeg = l then sc (fun y => h 94 (60 * k.toNatClampNeg + y)) (h 93 k.toNatClampNeg) f n.toNatClampNeg 0 (h 63 5) else if h 92 k.toNatClampNeg = -4 then -11 else -13
def scNm (h : Hp) (k l f n : Int32) : Int32 := if z_sht k l = 0 then h 63 5 else if z_wi n 0 12 = 0 then h 63 5 else if h 92 k.toNatClampNeg = l then (if sc (fun y => h 94 (60 * k.toNatClampNeg + y)) (h 93 k.toNatClampNeg) f n.toNatClampNeg 0 (h 63 5) < 0 then h 63 5 else sc (fun y => h 94 (60 * k.toNatClampNeg + y)) (h 93 k.toNatClampNeg) f n.toNatClampNeg 0 (h 63 5)) else h 63 5

set_option maxRecDepth 100000 in
set_option maxHeartbeats 4000000 in
theorem w_mscanX (L : Nat) (b : Bool) (h : Hp) (hB : Bx h) (k l f n : Int32) : EvI mi_X10_scan [.ref 63, .int k, .int l, .int f, .int n] (G0 L b) h (fun r z => r = scRm h k l f n ∧ z 63 5 = scNm h k l f n) [(63, 5), (64, 999), (65, 999), (66, 999), (67, 999), (68, 999), (69, 999), (70, 999)] := by
  refine EvM.of2 (lo := [some (.ref 63), some (.int k), some (.int l), some (.int f), some (.int n), none, none, none, none, none, none, none]) pf_X10_scan ok_X10_scan rfl rfl ?_
  refine ev_iload_n rfl rfl rfl ?_
  refine ev_iload_n rfl rfl rfl ?_
  refine ev_S2D rfl rfl lk_X10_335 st_X10_isSheet rfl rfl (c_isSheet _ _ _ _) ?_
  refine ev_if_eq rfl rfl (fun c_5 => ?_) (fun c_5 => ?_)
  · refine ev_iconst (v := (-1)) rfl rfl (by decide) ?_
    exact ev_iret rfl rfl rfl (⟨⟨_, rfl, by simp only [scRm, if_pos c_5], by simp only [scNm, if_pos c_5]⟩, rfl, JW.refl hB⟩)
  · refine ev_iload rfl rfl rfl ?_
    refine ev_i2l rfl rfl ?_
    refine ev_lconst (v := 0) rfl rfl rfl ?_
    refine ev_ldc2 rfl rfl kc_X10_358 ?_
    refine ev_S3D rfl rfl lk_X10_124 st_X10_in rfl rfl (c_inw _ _ _ (0) (12) (by decide) (by decide)) ?_
    refine ev_if_ne rfl rfl (fun c_18 => ?_) (fun c_18 => ?_)
    · obtain ⟨j, hj, rfl⟩ := z_sht_k c_5
      have ej := nI_clamp (show j < 2 ^ 31 by omega)
      obtain ⟨m, hm, rfl⟩ : ∃ m : Nat, m ≤ 12 ∧ n = nI m := ⟨_, (B.nI (u := 12) (z_wi_B (by decide : B 0 0 0) (by decide : B 12 12 12) c_18)).2, (B.nI (u := 12) (z_wi_B (by decide : B 0 0 0) (by decide : B 12 12 12) c_18)).1⟩
      have em := nI_clamp (show m < 2 ^ 31 by omega)
      refine ev_aload_n rfl rfl rfl ?_
      refine ev_getR rfl rfl fl_X10_112 rfl rfl rfl rfl ?_
      refine ev_iload_n rfl rfl rfl ?_
      refine ev_iald rfl rfl rfl (vp_in_nI (by omega) (by decide)) (nI_clamp (by omega)) ?_
      refine ev_iload_n rfl rfl rfl ?_
      refine ev_icmp_eq rfl rfl (fun c_30 => ?_) (fun c_30 => ?_)
      · refine ev_aload_n rfl rfl rfl ?_
        refine ev_getI rfl rfl fl_X10_121 rfl rfl rfl ?_
        refine ev_istore rfl rfl rfl rfl ?_
        dsimp only [List.set]
        refine ev_iconst (v := 0) rfl rfl (by decide) ?_
        refine ev_istore rfl rfl rfl rfl ?_
        dsimp only [List.set]
        refine ev_iconst (v := 0) rfl rfl (by decide) ?_
        refine ev_istore rfl rfl rfl rfl ?_
        dsimp only [List.set]
        refine EvQ.mono (l_mscan L b h hB j hj l f (h 63 5) (hB 63 5) m hm m 0 h (h 63 5) (by omega) (JW.refl hB) rfl) (Nat.le_refl _) (Nat.le_refl _) (fun v G' h' z => ?_)
        obtain ⟨⟨r, ev, er, ez⟩, eg, ej2⟩ := z
        exact ⟨⟨r, ev, er.trans (by simp only [scRm, if_neg c_5, if_neg c_18, if_pos c_30, ej, em]), ez.trans (by simp only [scNm, if_neg c_5, if_neg c_18, if_pos c_30, ej, em])⟩, eg, ej2⟩
      · refine ev_aload_n rfl rfl rfl ?_
        refine ev_getR rfl rfl fl_X10_112 rfl rfl rfl rfl ?_
        refine ev_iload_n rfl rfl rfl ?_
        refine ev_iald rfl rfl rfl (vp_in_nI (by omega) (by decide)) (nI_clamp (by omega)) ?_
        refine ev_bipush (v := (-4)) rfl rfl (by decide) ?_
        refine ev_icmp_ne rfl rfl (fun c_41 => ?_) (fun c_41 => ?_)
        · refine ev_bipush (v := (-13)) rfl rfl (by decide) ?_
          exact ev_iret rfl rfl rfl (⟨⟨_, rfl, by simp only [scRm, if_neg c_5, if_neg c_18, if_neg c_30, if_neg c_41, ej], by simp only [scNm, if_neg c_5, if_neg c_18, if_neg c_30, if_neg c_41, ej]⟩, rfl, JW.refl hB⟩)
        · refine ev_bipush (v := (-11)) rfl rfl (by decide) ?_
          refine ev_goto rfl rfl ?_
          exact ev_iret rfl rfl rfl (⟨⟨_, rfl, by simp only [scRm, if_neg c_5, if_neg c_18, if_neg c_30, if_pos c_41, ej], by simp only [scNm, if_neg c_5, if_neg c_18, if_neg c_30, if_pos c_41, ej]⟩, rfl, JW.refl hB⟩)
    · refine ev_iconst (v := (-1)) rfl rfl (by decide) ?_
      exact ev_iret rfl rfl rfl (⟨⟨_, rfl, by simp only [scRm, if_neg c_5, if_pos c_18], by simp only [scNm, if_neg c_5, if_pos c_18]⟩, rfl, JW.refl hB⟩)

/-- sheets and the whistles' number are the same on both sides -/
def RWh (h : Hp) : Prop := RSh h ∧ h 4 7 = h 63 5
theorem oC_cg {c c' : Nat → Int32} (e : ∀ x, x < 60 → c x = c' x) {s a w : Int32} (hs : B s (-1) 60) : oC c s a w = oC c' s a w ∧ oN c s a w = oN c' s a w := by
  unfold oC oN
  by_cases q : 0 ≤ a.toInt ∧ a.toInt + 4 ≤ s.toInt
  · have h1 := hs.2
    have p : B a 0 ((56 : Nat) : Int) := ⟨by omega, by omega⟩
    have z := (B.nI p).2
    rw [if_pos q, if_pos q, if_pos q, if_pos q, e a.toNatClampNeg (by omega), e (a.toNatClampNeg + 1) (by omega), e (a.toNatClampNeg + 2) (by omega)]
    exact ⟨rfl, rfl⟩
  · rw [if_neg q, if_neg q, if_neg q, if_neg q]
    exact ⟨rfl, rfl⟩
theorem sc_cg {c c' : Nat → Int32} (e : ∀ x, x < 60 → c x = c' x) {s f : Int32} (hs : B s (-1) 60) : ∀ t i w, sc c s f t i w = sc c' s f t i w
  | 0, _, _ => rfl
  | t + 1, i, w => by
    unfold sc
    rw [(oC_cg e hs).1, (oC_cg e hs).2, sc_cg e hs t]
theorem rel_scan {h : Hp} (hB : Bx h) (hR : RWh h) (k l f n : Int32) : scRc h k l f n = scRm h k l f n ∧ scNc h k l f n = scNm h k l f n := by
  unfold scRc scRm scNc scNm
  rw [z_sht_has, hR.2]
  by_cases q0 : z_has k 4 = 0
  · simp only [if_pos q0, if_true]; exact ⟨trivial, trivial⟩
  · simp only [if_neg q0]
    by_cases q1 : z_wi l 0 2 = 0
    · simp only [if_pos q1, if_true]; exact ⟨trivial, trivial⟩
    · simp only [if_neg q1, if_neg (show ¬ (1 : Int32) = 0 by decide)]
      by_cases q2 : z_wi n 0 12 = 0
      · simp only [if_pos q2]; exact ⟨trivial, trivial⟩
      · simp only [if_neg q2]
        obtain ⟨j, hj, rfl⟩ := z_hask (x := 4) (m := 4) (N := 4) rfl (Nat.le_refl _) (by decide) q0
        simp only [nI_clamp (show j < 2 ^ 31 by omega)]
        obtain ⟨a1, a2, a3⟩ := hR.1 j hj
        have bl : B l 0 2 := z_wi_B (by decide : B 0 0 0) (by decide : B 2 2 2) q1
        unfold z_fas z_noth
        by_cases q3 : h 62 j = -1
        · have e4 := a1.mp q3
          have nl : ¬ h 92 j = l := fun e => absurd (e.symm.trans e4) (D_ne bl (by decide : B (-4) (-4) (-4)) (by decide))
          simp only [if_pos q3, if_neg nl, if_pos e4, if_neg (show ¬ (1 : Int32) = 0 by decide)]
          exact ⟨by decide, trivial⟩
        · obtain ⟨b1, b2⟩ := a2 q3
          have e4 : ¬ h 92 j = -4 := fun z => q3 (a1.mpr z)
          simp only [if_neg q3, if_true]
          rw [b2]
          by_cases q4 : h 92 j = l
          · simp only [if_pos q4, if_true]
            have es := sc_cg (c := h (57 + j)) (c' := fun y => h 94 (60 * j + y)) (fun x hx => a3 x hx) (s := h 62 j) (f := f) (hB 62 j) n.toNatClampNeg 0 (h 63 5)
            rw [es, b1]
            exact ⟨rfl, rfl⟩
          · simp only [if_neg q4, if_neg (show ¬ (3 : Int32) = 0 by decide), if_neg e4]
            exact ⟨by decide, trivial⟩
theorem mscan_cg {h h1 : Hp} (hJ : JW [(4, 7), (5, 999), (6, 999), (7, 999), (8, 999)] h h1) (k l f n : Int32) : scRm h1 k l f n = scRm h k l f n := by
  unfold scRm
  have e : (fun y => h1 94 (60 * k.toNatClampNeg + y)) = (fun y => h 94 (60 * k.toNatClampNeg + y)) := funext (fun y => hJ.2 94 (60 * k.toNatClampNeg + y) rfl)
  rw [hJ.2 92 k.toNatClampNeg rfl, hJ.2 93 k.toNatClampNeg rfl, hJ.2 63 5 rfl, e]
theorem mscanN_cg {h h1 : Hp} (hJ : JW [(4, 7), (5, 999), (6, 999), (7, 999), (8, 999)] h h1) (k l f n : Int32) : scNm h1 k l f n = scNm h k l f n := by
  unfold scNm
  have e : (fun y => h1 94 (60 * k.toNatClampNeg + y)) = (fun y => h 94 (60 * k.toNatClampNeg + y)) := funext (fun y => hJ.2 94 (60 * k.toNatClampNeg + y) rfl)
  rw [hJ.2 92 k.toNatClampNeg rfl, hJ.2 93 k.toNatClampNeg rfl, hJ.2 63 5 rfl, e]

