theorem z_hasv {w x : Int32} {m N : Nat} (hx : x = nI m) (hm : m ≤ N) (hN : N < 2 ^ 31) (h : ¬ z_has w x = 0) : vp_in w N := by
  subst hx
  obtain ⟨k, -, -, hv⟩ := z_has_in h hm hN
  exact hv
theorem z_hask {w x : Int32} {m N : Nat} (hx : x = nI m) (hm : m ≤ N) (hN : N < 2 ^ 31) (h : ¬ z_has w x = 0) : ∃ k, k < m ∧ w = nI k := by
  subst hx
  obtain ⟨k, h1, h2, -⟩ := z_has_in h hm hN
  exact ⟨k, h1, h2⟩
def r_sheet (k l n : Int32) : Int32 := if z_has k 4 = 0 then -1 else if z_wi l 0 2 = 0 then -1 else if n ≤ 60 then (if 0 ≤ n then 1 else -14) else -1
def k_sheet (h : Hp) (k l n : Int32) : Hp := if z_has k 4 = 0 then h else if z_wi l 0 2 = 0 then h else if n ≤ 60 then (if 0 ≤ n then k_renew h k.toNatClampNeg l n else h) else h
def r_lay (h : Hp) (k i : Int32) : Int32 := if z_has k 4 = 0 then -1 else if z_noth (h 62 k.toNatClampNeg) = 0 then (if z_has i (h 62 k.toNatClampNeg) = 0 then -12 else 1) else -11
def k_lay (h : Hp) (k i v : Int32) : Hp := if z_has k 4 = 0 then h else if z_noth (h 62 k.toNatClampNeg) = 0 then (if z_has i (h 62 k.toNatClampNeg) = 0 then h else ev_set h (57 + k.toNatClampNeg) i.toNatClampNeg (z_cut (h 61 k.toNatClampNeg) v)) else h
theorem z_size {x i : Int32} (hs : ∃ z, z ≤ 60 ∧ (x = -1 ∨ x = nI z)) (h1 : z_noth x = 0) (h2 : ¬ z_has i x = 0) : vp_in i 60 := by
  obtain ⟨z, hz, rfl | hx⟩ := hs
  · exact absurd h1 (by decide)
  · exact z_hasv hx hz (by decide) h2

set_option maxRecDepth 100000 in
set_option maxHeartbeats 4000000 in
theorem x_sheet (L : Nat) (b : Bool) (h : Hp) (k l n : Int32) : EvD mi_X9_sheet [.ref 1, .int k, .int l, .int n] (G0 L b) h (r_sheet k l n) (k_sheet h k l n) := by
  refine EvD.of (lo := [some (.ref 1), some (.int k), some (.int l), some (.int n)]) pf_X9_sheet ok_X9_sheet rfl rfl ?_
  refine ev_aload_n rfl rfl rfl ?_
  refine ev_getR rfl rfl fl_X9_71 rfl rfl rfl rfl ?_
  refine ev_iload_n rfl rfl rfl ?_
  refine ev_V1D rfl rfl lk_X9_255 vt_X5_has rfl rfl rfl rfl rfl (c_X5_has _ _ _ _) ?_
  refine ev_if_eq rfl rfl (fun c_8 => ?_) (fun c_8 => ?_)
  · refine ev_iconst (v := (-1)) rfl rfl (by decide) ?_
    exact ev_iret rfl rfl rfl (⟨congrArg (fun z => some (Value.int z)) (by simp only [r_sheet, if_pos c_8]), rfl, by simp only [k_sheet, if_pos c_8]⟩)
  · refine ev_aload_n rfl rfl rfl ?_
    refine ev_getR rfl rfl fl_X9_71 rfl rfl rfl rfl ?_
    refine ev_iload_n rfl rfl rfl ?_
    refine ev_V1D rfl rfl lk_X9_256 vt_X5_isLane rfl rfl rfl rfl rfl (c_isLane _ _ _ _) ?_
    refine ev_if_eq rfl rfl (fun c_19 => ?_) (fun c_19 => ?_)
    · refine ev_iconst (v := (-1)) rfl rfl (by decide) ?_
      exact ev_iret rfl rfl rfl (⟨congrArg (fun z => some (Value.int z)) (by simp only [r_sheet, if_neg c_8, if_pos c_19]), rfl, by simp only [k_sheet, if_neg c_8, if_pos c_19]⟩)
    · refine ev_iload_n rfl rfl rfl ?_
      refine ev_bipush (v := 60) rfl rfl (by decide) ?_
      refine ev_icmp_le rfl rfl (fun c_25 => ?_) (fun c_25 => ?_)
      · refine ev_iload_n rfl rfl rfl ?_
        refine ev_if_ge rfl rfl (fun c_31 => ?_) (fun c_31 => ?_)
        · obtain ⟨j, hj, rfl⟩ := z_hask (m := 4) rfl (Nat.le_refl 4) (by decide) c_8
          refine ev_aload_n rfl rfl rfl ?_
          refine ev_getR rfl rfl fl_X9_71 rfl rfl rfl rfl ?_
          refine ev_iload_n rfl rfl rfl ?_
          refine ev_iload_n rfl rfl rfl ?_
          refine ev_iload_n rfl rfl rfl ?_
          refine ev_V3U rfl rfl lk_X9_318 vt_X5_renew rfl rfl rfl rfl rfl (c_renew _ _ _ j hj _ _) ?_
          refine ev_iconst (v := 1) rfl rfl (by decide) ?_
          exact ev_iret rfl rfl rfl (⟨congrArg (fun z => some (Value.int z)) (by simp only [r_sheet, if_neg c_8, if_neg c_19, if_pos c_25, if_pos c_31, nI_clamp (show j < 2 ^ 31 by omega)]), rfl, by simp only [k_sheet, if_neg c_8, if_neg c_19, if_pos c_25, if_pos c_31, nI_clamp (show j < 2 ^ 31 by omega)]⟩)
        · refine ev_bipush (v := (-14)) rfl rfl (by decide) ?_
          exact ev_iret rfl rfl rfl (⟨congrArg (fun z => some (Value.int z)) (by simp only [r_sheet, if_neg c_8, if_neg c_19, if_pos c_25, if_neg c_31]), rfl, by simp only [k_sheet, if_neg c_8, if_neg c_19, if_pos c_25, if_neg c_31]⟩)
      · refine ev_iconst (v := (-1)) rfl rfl (by decide) ?_
        exact ev_iret rfl rfl rfl (⟨congrArg (fun z => some (Value.int z)) (by simp only [r_sheet, if_neg c_8, if_neg c_19, if_neg c_25]), rfl, by simp only [k_sheet, if_neg c_8, if_neg c_19, if_neg c_25]⟩)

set_option maxRecDepth 100000 in
set_option maxHeartbeats 4000000 in
theorem x_lay (L : Nat) (b : Bool) (h : Hp) (hs : ∀ j, j < 4 → ∃ z, z ≤ 60 ∧ (h 62 j = -1 ∨ h 62 j = nI z)) (k i v : Int32) : EvD mi_X9_lay [.ref 1, .int k, .int i, .int v] (G0 L b) h (r_lay h k i) (k_lay h k i v) := by
  refine EvD.of (lo := [some (.ref 1), some (.int k), some (.int i), some (.int v)]) pf_X9_lay ok_X9_lay rfl rfl ?_
  refine ev_aload_n rfl rfl rfl ?_
  refine ev_getR rfl rfl fl_X9_71 rfl rfl rfl rfl ?_
  refine ev_iload_n rfl rfl rfl ?_
  refine ev_V1D rfl rfl lk_X9_255 vt_X5_has rfl rfl rfl rfl rfl (c_X5_has _ _ _ _) ?_
  refine ev_if_ne rfl rfl (fun c_8 => ?_) (fun c_8 => ?_)
  · obtain ⟨j, hj, rfl⟩ := z_hask (m := 4) rfl (Nat.le_refl 4) (by decide) c_8
    have ej := nI_clamp (show j < 2 ^ 31 by omega)
    refine ev_aload_n rfl rfl rfl ?_
    refine ev_getR rfl rfl fl_X9_71 rfl rfl rfl rfl ?_
    refine ev_iload_n rfl rfl rfl ?_
    refine ev_V1D rfl rfl lk_X9_322 vt_X5_isNothing rfl rfl rfl rfl rfl (c_isNothing _ _ _ j hj) ?_
    refine ev_if_eq rfl rfl (fun c_21 => ?_) (fun c_21 => ?_)
    · refine ev_aload_n rfl rfl rfl ?_
      refine ev_getR rfl rfl fl_X9_71 rfl rfl rfl rfl ?_
      refine ev_iload_n rfl rfl rfl ?_
      refine ev_iload_n rfl rfl rfl ?_
      refine ev_V2D rfl rfl lk_X9_325 vt_X5_hasCell rfl rfl rfl rfl rfl (c_hasCell _ _ _ j hj _) ?_
      refine ev_if_ne rfl rfl (fun c_36 => ?_) (fun c_36 => ?_)
      · have hi : vp_in i 60 := z_size (hs j hj) c_21 c_36
        refine ev_aload_n rfl rfl rfl ?_
        refine ev_getR rfl rfl fl_X9_71 rfl rfl rfl rfl ?_
        refine ev_iload_n rfl rfl rfl ?_
        refine ev_iload_n rfl rfl rfl ?_
        refine ev_iload_n rfl rfl rfl ?_
        refine ev_V3U rfl rfl lk_X9_329 vt_X5_put rfl rfl rfl rfl rfl (c_put _ _ _ j hj _ _ hi) ?_
        refine ev_iconst (v := 1) rfl rfl (by decide) ?_
        exact ev_iret rfl rfl rfl (⟨congrArg (fun z => some (Value.int z)) (by simp only [r_lay, if_neg c_8, if_pos c_21, if_neg c_36, ej]), rfl, by simp only [k_lay, if_neg c_8, if_pos c_21, if_neg c_36, ej]⟩)
      · refine ev_bipush (v := (-12)) rfl rfl (by decide) ?_
        exact ev_iret rfl rfl rfl (⟨congrArg (fun z => some (Value.int z)) (by simp only [r_lay, if_neg c_8, if_pos c_21, if_pos c_36, ej]), rfl, by simp only [k_lay, if_neg c_8, if_pos c_21, if_pos c_36, ej]⟩)
    · refine ev_bipush (v := (-11)) rfl rfl (by decide) ?_
      exact ev_iret rfl rfl rfl (⟨congrArg (fun z => some (Value.int z)) (by simp only [r_lay, if_neg c_8, if_neg c_21, ej]), rfl, by simp only [k_lay, if_neg c_8, if_neg c_21, ej]⟩)
  · refine ev_iconst (v := (-1)) rfl rfl (by decide) ?_
    exact ev_iret rfl rfl rfl (⟨congrArg (fun z => some (Value.int z)) (by simp only [r_lay, if_pos c_8]), rfl, by simp only [k_lay, if_pos c_8]⟩)

