def h_00 (xs : Nat → Int32) : Hp := fun i j => if i = 0 then xs j else 0
def hf (xs : Nat → Int32) : Hp := h_Model (h_X (h_00 xs))
theorem hf_92 (xs : Nat → Int32) (j : Nat) (hj : j < 4) : hf xs 92 j = -4 := by
  rcases (show j = 0 ∨ j = 1 ∨ j = 2 ∨ j = 3 by omega) with rfl | rfl | rfl | rfl <;> rfl
theorem hf_62 (xs : Nat → Int32) (j : Nat) (hj : j < 4) : hf xs 62 j = -1 := by
  rcases (show j = 0 ∨ j = 1 ∨ j = 2 ∨ j = 3 by omega) with rfl | rfl | rfl | rfl <;> rfl
theorem hf_62' (xs : Nat → Int32) (j : Nat) (hj : j < 4) : ∃ z, z ≤ 60 ∧ (hf xs 62 j = -1 ∨ hf xs 62 j = nI z) := ⟨0, by decide, Or.inl (hf_62 xs j hj)⟩
theorem z_hasAll0 (c : Int32) : z_hasAll c 0 = z_wi c 0 0 := by
  have e : c &&& (z_all 0 ^^^ (-1)) = c := by
    have e1 : z_all 0 ^^^ (-1) = -1 := by decide
    rw [e1]
    simp
  unfold z_hasAll z_wi
  rw [e]
  by_cases q : c = 0
  · subst q; decide
  · rw [if_neg q]
    by_cases q1 : c < 0
    · rw [if_pos q1]
    · rw [if_neg q1, if_pos]
      rw [Int32.lt_iff_toInt_lt] at *
      have e0 : (0 : Int32).toInt = 0 := by decide
      have : c.toInt ≠ 0 := fun z => q (Int32.toInt_inj.mp (by rw [z, e0]))
      omega
theorem z_has4 (k : Int32) : z_has k 4 = z_wi k 0 3 := by
  unfold z_has z_wi
  by_cases q : k < 0
  · rw [if_pos q, if_pos q]
  · rw [if_neg q, if_neg q]
    have e : (4 ≤ k) ↔ (3 < k) := by
      rw [Int32.le_iff_toInt_le, Int32.lt_iff_toInt_lt]
      have e3 : (3 : Int32).toInt = 3 := by decide
      have e4 : (4 : Int32).toInt = 4 := by decide
      omega
    by_cases q2 : 4 ≤ k
    · rw [if_pos q2, if_pos (e.mp q2)]
    · rw [if_neg q2, if_neg (fun z => q2 (e.mpr z))]
theorem z_sht_eq (k l : Int32) : z_sht k l = if z_has k 4 = 0 then 0 else if z_wi l 0 2 = 0 then 0 else 1 := by rw [z_has4]; rfl
theorem r_way0 (h : Hp) (x y : Int32) : r_mfar x y = o_way h 0 x y := by
  unfold r_mfar o_way s_way z_min z_max
  by_cases q : y ≤ x
  · rw [if_pos q, if_pos q, if_neg (Int32.not_lt.mpr q)]
    by_cases q2 : y < x
    · rw [if_pos q2]
    · rw [if_neg q2]
      have : x = y := Int32.le_antisymm (Int32.not_lt.mp q2) q
      rw [this]
  · have q1 : x < y := Int32.not_le.mp q
    rw [if_neg q, if_neg q, if_pos q1, if_neg (fun z => q (Int32.le_of_lt z))]
theorem z_add0 {h : Hp} (e : h 4 7 = 0) (n d s : Int32) : z_add h n d s = if z_wi n 0 3600 = 0 then -1 else if z_wi d 1 9 = 0 then -1 else if z_wi s 0 20 = 0 then -1 else 0 := by
  unfold z_add
  rw [e]
  have q : (if (0 : Int32) < 12 then (0 : Int32) + 1 - 1 else -3) = 0 := by decide
  rw [q]
theorem r_tuneAll0 {h : Hp} (e : h 4 7 = 0) (p : Int32) : r_tuneAll h 0 0 p = if z_wi p 0 200 = 0 then -1 else 0 := by
  unfold r_tuneAll s_exact
  rw [e]
  rfl
theorem z_boat0 {h : Hp} (e : h 50 2 = 0) (p l : Int32) : (if z_wi p 0 999 = 0 then (-1 : Int32) else if z_wi l 0 99 = 0 then -1 else z_addB (h 50 2) 4) = if z_wi p 0 999 = 0 then -1 else if z_wi l 0 99 = 0 then -1 else 0 := by
  rw [e]
  have q : z_addB 0 4 = 0 := by decide
  rw [q]
theorem z_bend0 {h : Hp} (e : h 50 5 = 0) (p l : Int32) : (if z_wi p 0 999 = 0 then (-1 : Int32) else if z_wi l 1 99 = 0 then -1 else if s_bd h p 0 0 = 0 then z_addN (h 50 5) else -1) = if z_wi p 0 999 = 0 then -1 else if z_wi l 1 99 = 0 then -1 else 1 := by
  rw [e]
  have q : z_addN 0 = 1 := by decide
  rw [q]
  rfl
theorem r_count0 {h : Hp} (e1 : h 4 6 = 0) (e2 : h 62 0 = -1) (q : Int32) : r_count h 0 q = if q = 0 then h 4 7 else if q = 1 then h 28 2 else if q = 2 then h 50 2 else if q = 3 then h 50 5 else if q = 4 then 0 else if q = 5 then 0 else if q = 6 then h 11 2 else if q = 7 then h 23 1 else if q = 8 then -4 else -1 := by
  unfold r_count
  rw [e1, e2, z_bc0]
  rfl
def QL : Pst := fun v _ _ => v = some (.int 1)

set_option maxRecDepth 100000 in
set_option maxHeartbeats 4000000 in
theorem w_fin (h : Hp) : EvQ mi_L_law 1426 [some (.ref 0), some (.ref 1), some (.ref 63), some (.int 0)] [] (G0 8 false) h 0 0 QL := by
  refine ev_iinc (y := 8) rfl rfl rfl (by decide) rfl rfl ?_
  dsimp only [List.set]
  refine ev_goto rfl rfl ?_
  refine ev_iload_n rfl rfl rfl ?_
  refine ev_aload_n rfl rfl rfl ?_
  refine ev_alen rfl rfl rfl ?_
  refine ev_bipush (v := 8) rfl rfl (by decide) ?_
  refine ev_isub rfl rfl ?_
  refine ev_icmp_gt rfl rfl (fun c_24 => ?_) (fun z_ => absurd (by decide) z_)
  refine ev_iconst (v := 1) rfl rfl (by decide) ?_
  exact ev_iret rfl rfl rfl (rfl)

theorem r_sheet_f (k l n : Int32) : (if z_sht k l = 0 then (-1 : Int32) else if n ≤ 60 then (if 0 ≤ n then 1 else -14) else -1) = r_sheet k l n := by
  unfold r_sheet
  rw [z_sht_eq]
  by_cases q1 : z_has k 4 = 0
  · rw [if_pos q1, if_pos rfl, if_pos q1]
  · rw [if_neg q1, if_neg q1]
    by_cases q2 : z_wi l 0 2 = 0
    · rw [if_pos q2, if_pos rfl, if_pos q2]
    · rw [if_neg q2, if_neg q2]
      rfl
theorem r_lay_f (xs : Nat → Int32) (k i : Int32) : (if z_sht k 0 = 0 then (-1 : Int32) else -11) = r_lay (hf xs) k i := by
  unfold r_lay
  rw [z_sht_eq]
  by_cases q1 : z_has k 4 = 0
  · rw [if_pos q1, if_pos rfl, if_pos q1]
  · have q := z_has_k (m := 4) rfl (Nat.le_refl 4) (by decide) q1
    rw [if_neg q1, if_neg q1, hf_62 xs _ q]
    rfl
theorem r_scan_f (k l n : Int32) : (if z_sht k l = 0 then (-1 : Int32) else if z_wi n 0 12 = 0 then -1 else -11) = (if z_has k 4 = 0 then -1 else if z_wi l 0 2 = 0 then -1 else if z_wi n 0 12 = 0 then -1 else -11) := by
  rw [z_sht_eq]
  by_cases q1 : z_has k 4 = 0
  · rw [if_pos q1, if_pos rfl, if_pos q1]
  · rw [if_neg q1, if_neg q1]
    by_cases q2 : z_wi l 0 2 = 0
    · rw [if_pos q2, if_pos rfl, if_pos q2]
    · rw [if_neg q2, if_neg q2]
      rfl

set_option maxRecDepth 100000 in
set_option maxHeartbeats 4000000 in
theorem w_c_fire (xs : Nat → Int32) : EvQ mi_L_law 192 [some (.ref 0), some (.ref 1), some (.ref 63), some (.int 0)] [] (G0 8 false) (hf xs) 0 0 QL := by
  refine ev_aload_n rfl rfl rfl ?_
  refine ev_aload_n rfl rfl rfl ?_
  refine ev_iload_n rfl rfl rfl ?_
  refine ev_iconst (v := 1) rfl rfl (by decide) ?_
  refine ev_iadd rfl rfl ?_
  refine ev_iald (j := 1) rfl rfl rfl (by unfold vp_in; decide) (by decide) ?_
  refine ev_V1F rfl rfl lk_L_13 vt_X9_fire rfl rfl rfl rfl rfl ((x_fire 8 false (hf xs) 0 (by decide) rfl _).f (fr_fire _ (by decide) _)) (fun h1 f1 => ?_)
  refine ev_aload_n rfl rfl rfl ?_
  refine ev_aload_n rfl rfl rfl ?_
  refine ev_iload_n rfl rfl rfl ?_
  refine ev_iconst (v := 1) rfl rfl (by decide) ?_
  refine ev_iadd rfl rfl ?_
  refine ev_iald (j := 1) rfl rfl rfl (by unfold vp_in; decide) (by decide) ?_
  try simp only [f1 0 _ (Or.inl rfl)]
  refine ev_V1X rfl rfl lk_L_17 vt_X10_fire rfl rfl rfl rfl rfl (m_fire 8 false h1 ((f1 63 13 (Or.inr (by decide))).trans rfl) _) (fun h2 => ?_)
  refine ev_icmp_eq rfl rfl (fun c_210 => ?_) (fun z_ => absurd (by simp only [f1 63 _ (Or.inr (Nat.le_refl 63))]; rfl) z_)
  exact w_fin _

set_option maxRecDepth 100000 in
set_option maxHeartbeats 4000000 in
theorem w_c_water (xs : Nat → Int32) : EvQ mi_L_law 215 [some (.ref 0), some (.ref 1), some (.ref 63), some (.int 0)] [] (G0 8 false) (hf xs) 0 0 QL := by
  refine ev_aload_n rfl rfl rfl ?_
  refine ev_aload_n rfl rfl rfl ?_
  refine ev_iload_n rfl rfl rfl ?_
  refine ev_iconst (v := 1) rfl rfl (by decide) ?_
  refine ev_iadd rfl rfl ?_
  refine ev_iald (j := 1) rfl rfl rfl (by unfold vp_in; decide) (by decide) ?_
  refine ev_V1F rfl rfl lk_L_18 vt_X9_water rfl rfl rfl rfl rfl ((x_water 8 false (hf xs) 0 (by decide) rfl _).f (fr_water _ (by decide) _)) (fun h1 f1 => ?_)
  refine ev_aload_n rfl rfl rfl ?_
  refine ev_aload_n rfl rfl rfl ?_
  refine ev_iload_n rfl rfl rfl ?_
  refine ev_iconst (v := 1) rfl rfl (by decide) ?_
  refine ev_iadd rfl rfl ?_
  refine ev_iald (j := 1) rfl rfl rfl (by unfold vp_in; decide) (by decide) ?_
  try simp only [f1 0 _ (Or.inl rfl)]
  refine ev_V1X rfl rfl lk_L_21 vt_X10_water rfl rfl rfl rfl rfl (m_water 8 false h1 ((f1 63 13 (Or.inr (by decide))).trans rfl) _) (fun h2 => ?_)
  refine ev_icmp_eq rfl rfl (fun c_233 => ?_) (fun z_ => absurd (by simp only [f1 63 _ (Or.inr (Nat.le_refl 63))]; rfl) z_)
  exact w_fin _

set_option maxRecDepth 100000 in
set_option maxHeartbeats 4000000 in
theorem w_c_valve (xs : Nat → Int32) : EvQ mi_L_law 238 [some (.ref 0), some (.ref 1), some (.ref 63), some (.int 0)] [] (G0 8 false) (hf xs) 0 0 QL := by
  refine ev_aload_n rfl rfl rfl ?_
  refine ev_aload_n rfl rfl rfl ?_
  refine ev_iload_n rfl rfl rfl ?_
  refine ev_iconst (v := 1) rfl rfl (by decide) ?_
  refine ev_iadd rfl rfl ?_
  refine ev_iald (j := 1) rfl rfl rfl (by unfold vp_in; decide) (by decide) ?_
  refine ev_V1F rfl rfl lk_L_22 vt_X9_valve rfl rfl rfl rfl rfl ((x_valve 8 false (hf xs) 0 (by decide) rfl _).f (fr_valve _ (by decide) _)) (fun h1 f1 => ?_)
  refine ev_aload_n rfl rfl rfl ?_
  refine ev_aload_n rfl rfl rfl ?_
  refine ev_iload_n rfl rfl rfl ?_
  refine ev_iconst (v := 1) rfl rfl (by decide) ?_
  refine ev_iadd rfl rfl ?_
  refine ev_iald (j := 1) rfl rfl rfl (by unfold vp_in; decide) (by decide) ?_
  try simp only [f1 0 _ (Or.inl rfl)]
  refine ev_V1X rfl rfl lk_L_25 vt_X10_valve rfl rfl rfl rfl rfl (m_valve 8 false h1 ((f1 63 13 (Or.inr (by decide))).trans rfl) _) (fun h2 => ?_)
  refine ev_icmp_eq rfl rfl (fun c_256 => ?_) (fun z_ => absurd (by simp only [f1 63 _ (Or.inr (Nat.le_refl 63))]; rfl) z_)
  exact w_fin _

set_option maxRecDepth 100000 in
set_option maxHeartbeats 4000000 in
theorem w_c_pressure (xs : Nat → Int32) : EvQ mi_L_law 261 [some (.ref 0), some (.ref 1), some (.ref 63), some (.int 0)] [] (G0 8 false) (hf xs) 0 0 QL := by
  refine ev_aload_n rfl rfl rfl ?_
  refine ev_aload_n rfl rfl rfl ?_
  refine ev_iload_n rfl rfl rfl ?_
  refine ev_iconst (v := 1) rfl rfl (by decide) ?_
  refine ev_iadd rfl rfl ?_
  refine ev_iald (j := 1) rfl rfl rfl (by unfold vp_in; decide) (by decide) ?_
  refine ev_V1F rfl rfl lk_L_26 vt_X9_pressure rfl rfl rfl rfl rfl ((x_pressure 8 false (hf xs) 0 (by decide) rfl _).f (fr_press _ (by decide) _)) (fun h1 f1 => ?_)
  refine ev_aload_n rfl rfl rfl ?_
  refine ev_aload_n rfl rfl rfl ?_
  refine ev_iload_n rfl rfl rfl ?_
  refine ev_iconst (v := 1) rfl rfl (by decide) ?_
  refine ev_iadd rfl rfl ?_
  refine ev_iald (j := 1) rfl rfl rfl (by unfold vp_in; decide) (by decide) ?_
  try simp only [f1 0 _ (Or.inl rfl)]
  refine ev_V1X rfl rfl lk_L_29 vt_X10_pressure rfl rfl rfl rfl rfl (m_pressure 8 false h1 ((f1 63 13 (Or.inr (by decide))).trans rfl) _) (fun h2 => ?_)
  refine ev_icmp_eq rfl rfl (fun c_279 => ?_) (fun z_ => absurd (by simp only [f1 63 _ (Or.inr (Nat.le_refl 63))]; rfl) z_)
  exact w_fin _

set_option maxRecDepth 100000 in
set_option maxHeartbeats 4000000 in
theorem w_c_boiler (xs : Nat → Int32) : EvQ mi_L_law 284 [some (.ref 0), some (.ref 1), some (.ref 63), some (.int 0)] [] (G0 8 false) (hf xs) 0 0 QL := by
  refine ev_aload_n rfl rfl rfl ?_
  refine ev_aload_n rfl rfl rfl ?_
  refine ev_iload_n rfl rfl rfl ?_
  refine ev_iconst (v := 1) rfl rfl (by decide) ?_
  refine ev_iadd rfl rfl ?_
  refine ev_iald (j := 1) rfl rfl rfl (by unfold vp_in; decide) (by decide) ?_
  refine ev_V1F rfl rfl lk_L_30 vt_X9_boiler rfl rfl rfl rfl rfl ((x_boiler 8 false (hf xs) 0 (by decide) rfl _).f ((Fr.refl _))) (fun h1 f1 => ?_)
  refine ev_aload_n rfl rfl rfl ?_
  refine ev_aload_n rfl rfl rfl ?_
  refine ev_iload_n rfl rfl rfl ?_
  refine ev_iconst (v := 1) rfl rfl (by decide) ?_
  refine ev_iadd rfl rfl ?_
  refine ev_iald (j := 1) rfl rfl rfl (by unfold vp_in; decide) (by decide) ?_
  try simp only [f1 0 _ (Or.inl rfl)]
  refine ev_V1X rfl rfl lk_L_33 vt_X10_boiler rfl rfl rfl rfl rfl (m_boiler 8 false h1 ((f1 63 5 (Or.inr (by decide))).trans rfl) _) (fun h2 => ?_)
  refine ev_icmp_eq rfl rfl (fun c_302 => ?_) (fun z_ => absurd (by simp only [f1 63 _ (Or.inr (Nat.le_refl 63))]; rfl) z_)
  exact w_fin _

set_option maxRecDepth 100000 in
set_option maxHeartbeats 4000000 in
theorem w_c_beat (xs : Nat → Int32) : EvQ mi_L_law 307 [some (.ref 0), some (.ref 1), some (.ref 63), some (.int 0)] [] (G0 8 false) (hf xs) 0 0 QL := by
  refine ev_aload_n rfl rfl rfl ?_
  refine ev_aload_n rfl rfl rfl ?_
  refine ev_iload_n rfl rfl rfl ?_
  refine ev_iconst (v := 1) rfl rfl (by decide) ?_
  refine ev_iadd rfl rfl ?_
  refine ev_iald (j := 1) rfl rfl rfl (by unfold vp_in; decide) (by decide) ?_
  refine ev_V1F rfl rfl lk_L_34 vt_X9_beat rfl rfl rfl rfl rfl ((x_beat 8 false (hf xs) 0 (by decide) rfl 0 (by decide) rfl _).f (fr_beat _ (by decide) _ _)) (fun h1 f1 => ?_)
  refine ev_aload_n rfl rfl rfl ?_
  refine ev_aload_n rfl rfl rfl ?_
  refine ev_iload_n rfl rfl rfl ?_
  refine ev_iconst (v := 1) rfl rfl (by decide) ?_
  refine ev_iadd rfl rfl ?_
  refine ev_iald (j := 1) rfl rfl rfl (by unfold vp_in; decide) (by decide) ?_
  try simp only [f1 0 _ (Or.inl rfl)]
  refine ev_V1X rfl rfl lk_L_37 vt_X10_beat rfl rfl rfl rfl rfl (m_beat 8 false h1 ((f1 63 13 (Or.inr (by decide))).trans rfl) ((f1 63 5 (Or.inr (by decide))).trans rfl) (by rw [f1 63 1 (Or.inr (by decide))]; exact (by decide : (0 : Int32) ≤ 1000)) _) (fun h2 => ?_)
  refine ev_icmp_eq rfl rfl (fun c_325 => ?_) (fun z_ => absurd (by rw [← z_hasAll0]; rfl) z_)
  exact w_fin _

set_option maxRecDepth 100000 in
set_option maxHeartbeats 4000000 in
theorem w_c_whistle (xs : Nat → Int32) : EvQ mi_L_law 330 [some (.ref 0), some (.ref 1), some (.ref 63), some (.int 0)] [] (G0 8 false) (hf xs) 0 0 QL := by
  refine ev_aload_n rfl rfl rfl ?_
  refine ev_aload_n rfl rfl rfl ?_
  refine ev_iload_n rfl rfl rfl ?_
  refine ev_iconst (v := 1) rfl rfl (by decide) ?_
  refine ev_iadd rfl rfl ?_
  refine ev_iald (j := 1) rfl rfl rfl (by unfold vp_in; decide) (by decide) ?_
  refine ev_aload_n rfl rfl rfl ?_
  refine ev_iload_n rfl rfl rfl ?_
  refine ev_iconst (v := 2) rfl rfl (by decide) ?_
  refine ev_iadd rfl rfl ?_
  refine ev_iald (j := 2) rfl rfl rfl (by unfold vp_in; decide) (by decide) ?_
  refine ev_aload_n rfl rfl rfl ?_
  refine ev_iload_n rfl rfl rfl ?_
  refine ev_iconst (v := 3) rfl rfl (by decide) ?_
  refine ev_iadd rfl rfl ?_
  refine ev_iald (j := 3) rfl rfl rfl (by unfold vp_in; decide) (by decide) ?_
  refine ev_aload_n rfl rfl rfl ?_
  refine ev_iload_n rfl rfl rfl ?_
  refine ev_iconst (v := 4) rfl rfl (by decide) ?_
  refine ev_iadd rfl rfl ?_
  refine ev_iald (j := 4) rfl rfl rfl (by unfold vp_in; decide) (by decide) ?_
  refine ev_if_eq rfl rfl (fun c_351 => ?_) (fun c_351 => ?_)
  · refine ev_iconst (v := 0) rfl rfl (by decide) ?_
    refine ev_V4F rfl rfl lk_L_38 vt_X9_whistle rfl rfl rfl rfl rfl ((x_whistle 8 false (hf xs) 0 (by decide) rfl _ _ _ _ (by decide)).f (fr_add _ _ _ _ _ _)) (fun h1 f1 => ?_)
    refine ev_aload_n rfl rfl rfl ?_
    refine ev_aload_n rfl rfl rfl ?_
    refine ev_iload_n rfl rfl rfl ?_
    refine ev_iconst (v := 1) rfl rfl (by decide) ?_
    refine ev_iadd rfl rfl ?_
    refine ev_iald (j := 1) rfl rfl rfl (by unfold vp_in; decide) (by decide) ?_
    try simp only [f1 0 _ (Or.inl rfl)]
    refine ev_aload_n rfl rfl rfl ?_
    refine ev_iload_n rfl rfl rfl ?_
    refine ev_iconst (v := 2) rfl rfl (by decide) ?_
    refine ev_iadd rfl rfl ?_
    refine ev_iald (j := 2) rfl rfl rfl (by unfold vp_in; decide) (by decide) ?_
    try simp only [f1 0 _ (Or.inl rfl)]
    refine ev_aload_n rfl rfl rfl ?_
    refine ev_iload_n rfl rfl rfl ?_
    refine ev_iconst (v := 3) rfl rfl (by decide) ?_
    refine ev_iadd rfl rfl ?_
    refine ev_iald (j := 3) rfl rfl rfl (by unfold vp_in; decide) (by decide) ?_
    try simp only [f1 0 _ (Or.inl rfl)]
    refine ev_aload_n rfl rfl rfl ?_
    refine ev_iload_n rfl rfl rfl ?_
    refine ev_iconst (v := 4) rfl rfl (by decide) ?_
    refine ev_iadd rfl rfl ?_
    refine ev_iald (j := 4) rfl rfl rfl (by unfold vp_in; decide) (by decide) ?_
    try simp only [f1 0 _ (Or.inl rfl)]
    refine ev_if_eq rfl rfl (fun c_383 => ?_) (fun c_383 => ?_)
    · refine ev_iconst (v := 0) rfl rfl (by decide) ?_
      refine ev_V4X rfl rfl lk_L_42 vt_X10_whistle rfl rfl rfl rfl rfl (m_whistle 8 false h1 ((f1 63 5 (Or.inr (by decide))).trans rfl) _ _ _ _ (by decide)) (fun h2 => ?_)
      refine ev_icmp_eq rfl rfl (fun c_394 => ?_) (fun z_ => absurd (z_add0 rfl _ _ _) z_)
      exact w_fin _
    · refine ev_iconst (v := 1) rfl rfl (by decide) ?_
      refine ev_goto rfl rfl ?_
      refine ev_V4X rfl rfl lk_L_42 vt_X10_whistle rfl rfl rfl rfl rfl (m_whistle 8 false h1 ((f1 63 5 (Or.inr (by decide))).trans rfl) _ _ _ _ (by decide)) (fun h2 => ?_)
      refine ev_icmp_eq rfl rfl (fun c_394 => ?_) (fun z_ => absurd (z_add0 rfl _ _ _) z_)
      exact w_fin _
  · refine ev_iconst (v := 1) rfl rfl (by decide) ?_
    refine ev_goto rfl rfl ?_
    refine ev_V4F rfl rfl lk_L_38 vt_X9_whistle rfl rfl rfl rfl rfl ((x_whistle 8 false (hf xs) 0 (by decide) rfl _ _ _ _ (by decide)).f (fr_add _ _ _ _ _ _)) (fun h1 f1 => ?_)
    refine ev_aload_n rfl rfl rfl ?_
    refine ev_aload_n rfl rfl rfl ?_
    refine ev_iload_n rfl rfl rfl ?_
    refine ev_iconst (v := 1) rfl rfl (by decide) ?_
    refine ev_iadd rfl rfl ?_
    refine ev_iald (j := 1) rfl rfl rfl (by unfold vp_in; decide) (by decide) ?_
    try simp only [f1 0 _ (Or.inl rfl)]
    refine ev_aload_n rfl rfl rfl ?_
    refine ev_iload_n rfl rfl rfl ?_
    refine ev_iconst (v := 2) rfl rfl (by decide) ?_
    refine ev_iadd rfl rfl ?_
    refine ev_iald (j := 2) rfl rfl rfl (by unfold vp_in; decide) (by decide) ?_
    try simp only [f1 0 _ (Or.inl rfl)]
    refine ev_aload_n rfl rfl rfl ?_
    refine ev_iload_n rfl rfl rfl ?_
    refine ev_iconst (v := 3) rfl rfl (by decide) ?_
    refine ev_iadd rfl rfl ?_
    refine ev_iald (j := 3) rfl rfl rfl (by unfold vp_in; decide) (by decide) ?_
    try simp only [f1 0 _ (Or.inl rfl)]
    refine ev_aload_n rfl rfl rfl ?_
    refine ev_iload_n rfl rfl rfl ?_
    refine ev_iconst (v := 4) rfl rfl (by decide) ?_
    refine ev_iadd rfl rfl ?_
    refine ev_iald (j := 4) rfl rfl rfl (by unfold vp_in; decide) (by decide) ?_
    try simp only [f1 0 _ (Or.inl rfl)]
    refine ev_if_eq rfl rfl (fun c_383 => ?_) (fun c_383 => ?_)
    · refine ev_iconst (v := 0) rfl rfl (by decide) ?_
      refine ev_V4X rfl rfl lk_L_42 vt_X10_whistle rfl rfl rfl rfl rfl (m_whistle 8 false h1 ((f1 63 5 (Or.inr (by decide))).trans rfl) _ _ _ _ (by decide)) (fun h2 => ?_)
      refine ev_icmp_eq rfl rfl (fun c_394 => ?_) (fun z_ => absurd (z_add0 rfl _ _ _) z_)
      exact w_fin _
    · refine ev_iconst (v := 1) rfl rfl (by decide) ?_
      refine ev_goto rfl rfl ?_
      refine ev_V4X rfl rfl lk_L_42 vt_X10_whistle rfl rfl rfl rfl rfl (m_whistle 8 false h1 ((f1 63 5 (Or.inr (by decide))).trans rfl) _ _ _ _ (by decide)) (fun h2 => ?_)
      refine ev_icmp_eq rfl rfl (fun c_394 => ?_) (fun z_ => absurd (z_add0 rfl _ _ _) z_)
      exact w_fin _

set_option maxRecDepth 100000 in
set_option maxHeartbeats 4000000 in
theorem w_c_told (xs : Nat → Int32) : EvQ mi_L_law 399 [some (.ref 0), some (.ref 1), some (.ref 63), some (.int 0)] [] (G0 8 false) (hf xs) 0 0 QL := by
  refine ev_aload_n rfl rfl rfl ?_
  refine ev_aload_n rfl rfl rfl ?_
  refine ev_iload_n rfl rfl rfl ?_
  refine ev_iconst (v := 1) rfl rfl (by decide) ?_
  refine ev_iadd rfl rfl ?_
  refine ev_iald (j := 1) rfl rfl rfl (by unfold vp_in; decide) (by decide) ?_
  refine ev_aload_n rfl rfl rfl ?_
  refine ev_iload_n rfl rfl rfl ?_
  refine ev_iconst (v := 2) rfl rfl (by decide) ?_
  refine ev_iadd rfl rfl ?_
  refine ev_iald (j := 2) rfl rfl rfl (by unfold vp_in; decide) (by decide) ?_
  refine ev_V2F rfl rfl lk_L_43 vt_X9_told rfl rfl rfl rfl rfl ((x_told 8 false (hf xs) 0 (by decide) rfl _ _).f ((Fr.refl _))) (fun h1 f1 => ?_)
  refine ev_aload_n rfl rfl rfl ?_
  refine ev_aload_n rfl rfl rfl ?_
  refine ev_iload_n rfl rfl rfl ?_
  refine ev_iconst (v := 1) rfl rfl (by decide) ?_
  refine ev_iadd rfl rfl ?_
  refine ev_iald (j := 1) rfl rfl rfl (by unfold vp_in; decide) (by decide) ?_
  try simp only [f1 0 _ (Or.inl rfl)]
  refine ev_aload_n rfl rfl rfl ?_
  refine ev_iload_n rfl rfl rfl ?_
  refine ev_iconst (v := 2) rfl rfl (by decide) ?_
  refine ev_iadd rfl rfl ?_
  refine ev_iald (j := 2) rfl rfl rfl (by unfold vp_in; decide) (by decide) ?_
  try simp only [f1 0 _ (Or.inl rfl)]
  refine ev_V2X rfl rfl lk_L_47 vt_X10_told rfl rfl rfl rfl rfl (m_told 8 false h1 ((f1 63 5 (Or.inr (by decide))).trans rfl) _ _) (fun h2 => ?_)
  refine ev_icmp_eq rfl rfl (fun c_427 => ?_) (fun z_ => absurd ((by unfold r_told; rw [if_pos (show z_has _ (hf xs 4 7) = 0 from z_has0 _)])) z_)
  exact w_fin _

set_option maxRecDepth 100000 in
set_option maxHeartbeats 4000000 in
theorem w_c_stem (xs : Nat → Int32) : EvQ mi_L_law 432 [some (.ref 0), some (.ref 1), some (.ref 63), some (.int 0)] [] (G0 8 false) (hf xs) 0 0 QL := by
  refine ev_aload_n rfl rfl rfl ?_
  refine ev_aload_n rfl rfl rfl ?_
  refine ev_iload_n rfl rfl rfl ?_
  refine ev_iconst (v := 1) rfl rfl (by decide) ?_
  refine ev_iadd rfl rfl ?_
  refine ev_iald (j := 1) rfl rfl rfl (by unfold vp_in; decide) (by decide) ?_
  refine ev_aload_n rfl rfl rfl ?_
  refine ev_iload_n rfl rfl rfl ?_
  refine ev_iconst (v := 2) rfl rfl (by decide) ?_
  refine ev_iadd rfl rfl ?_
  refine ev_iald (j := 2) rfl rfl rfl (by unfold vp_in; decide) (by decide) ?_
  refine ev_V2F rfl rfl lk_L_48 vt_X9_stem rfl rfl rfl rfl rfl ((x_stem 8 false (hf xs) 0 (by decide) rfl 0 (by decide) rfl _ _).f (fr_stem _ (by decide) _ _)) (fun h1 f1 => ?_)
  refine ev_aload_n rfl rfl rfl ?_
  refine ev_aload_n rfl rfl rfl ?_
  refine ev_iload_n rfl rfl rfl ?_
  refine ev_iconst (v := 1) rfl rfl (by decide) ?_
  refine ev_iadd rfl rfl ?_
  refine ev_iald (j := 1) rfl rfl rfl (by unfold vp_in; decide) (by decide) ?_
  try simp only [f1 0 _ (Or.inl rfl)]
  refine ev_aload_n rfl rfl rfl ?_
  refine ev_iload_n rfl rfl rfl ?_
  refine ev_iconst (v := 2) rfl rfl (by decide) ?_
  refine ev_iadd rfl rfl ?_
  refine ev_iald (j := 2) rfl rfl rfl (by unfold vp_in; decide) (by decide) ?_
  try simp only [f1 0 _ (Or.inl rfl)]
  refine ev_V2X rfl rfl lk_L_51 vt_X10_stem rfl rfl rfl rfl rfl (m_stem 8 false h1 ((f1 63 5 (Or.inr (by decide))).trans rfl) _ _) (fun h2 => ?_)
  refine ev_icmp_eq rfl rfl (fun c_460 => ?_) (fun z_ => absurd ((by unfold r_stem; rw [if_pos (show z_has _ (hf xs 4 7) = 0 from z_has0 _)])) z_)
  exact w_fin _

set_option maxRecDepth 100000 in
set_option maxHeartbeats 4000000 in
theorem w_c_crack (xs : Nat → Int32) : EvQ mi_L_law 465 [some (.ref 0), some (.ref 1), some (.ref 63), some (.int 0)] [] (G0 8 false) (hf xs) 0 0 QL := by
  refine ev_aload_n rfl rfl rfl ?_
  refine ev_aload_n rfl rfl rfl ?_
  refine ev_iload_n rfl rfl rfl ?_
  refine ev_iconst (v := 1) rfl rfl (by decide) ?_
  refine ev_iadd rfl rfl ?_
  refine ev_iald (j := 1) rfl rfl rfl (by unfold vp_in; decide) (by decide) ?_
  refine ev_aload_n rfl rfl rfl ?_
  refine ev_iload_n rfl rfl rfl ?_
  refine ev_iconst (v := 2) rfl rfl (by decide) ?_
  refine ev_iadd rfl rfl ?_
  refine ev_iald (j := 2) rfl rfl rfl (by unfold vp_in; decide) (by decide) ?_
  refine ev_V2F rfl rfl lk_L_52 vt_X9_crack rfl rfl rfl rfl rfl ((x_crack 8 false (hf xs) 0 (by decide) rfl 0 (by decide) rfl _ _).f (fr_crack _ (by decide) _ _)) (fun h1 f1 => ?_)
  refine ev_aload_n rfl rfl rfl ?_
  refine ev_aload_n rfl rfl rfl ?_
  refine ev_iload_n rfl rfl rfl ?_
  refine ev_iconst (v := 1) rfl rfl (by decide) ?_
  refine ev_iadd rfl rfl ?_
  refine ev_iald (j := 1) rfl rfl rfl (by unfold vp_in; decide) (by decide) ?_
  try simp only [f1 0 _ (Or.inl rfl)]
  refine ev_aload_n rfl rfl rfl ?_
  refine ev_iload_n rfl rfl rfl ?_
  refine ev_iconst (v := 2) rfl rfl (by decide) ?_
  refine ev_iadd rfl rfl ?_
  refine ev_iald (j := 2) rfl rfl rfl (by unfold vp_in; decide) (by decide) ?_
  try simp only [f1 0 _ (Or.inl rfl)]
  refine ev_V2X rfl rfl lk_L_55 vt_X10_crack rfl rfl rfl rfl rfl (m_crack 8 false h1 ((f1 63 5 (Or.inr (by decide))).trans rfl) _ _) (fun h2 => ?_)
  refine ev_icmp_eq rfl rfl (fun c_493 => ?_) (fun z_ => absurd ((by unfold r_crack; rw [if_pos (show z_has _ (hf xs 4 7) = 0 from z_has0 _)])) z_)
  exact w_fin _

set_option maxRecDepth 100000 in
set_option maxHeartbeats 4000000 in
theorem w_c_leak (xs : Nat → Int32) : EvQ mi_L_law 498 [some (.ref 0), some (.ref 1), some (.ref 63), some (.int 0)] [] (G0 8 false) (hf xs) 0 0 QL := by
  refine ev_aload_n rfl rfl rfl ?_
  refine ev_aload_n rfl rfl rfl ?_
  refine ev_iload_n rfl rfl rfl ?_
  refine ev_iconst (v := 1) rfl rfl (by decide) ?_
  refine ev_iadd rfl rfl ?_
  refine ev_iald (j := 1) rfl rfl rfl (by unfold vp_in; decide) (by decide) ?_
  refine ev_aload_n rfl rfl rfl ?_
  refine ev_iload_n rfl rfl rfl ?_
  refine ev_iconst (v := 2) rfl rfl (by decide) ?_
  refine ev_iadd rfl rfl ?_
  refine ev_iald (j := 2) rfl rfl rfl (by unfold vp_in; decide) (by decide) ?_
  refine ev_if_eq rfl rfl (fun c_509 => ?_) (fun c_509 => ?_)
  · refine ev_iconst (v := 0) rfl rfl (by decide) ?_
    refine ev_V2F rfl rfl lk_L_56 vt_X9_leak rfl rfl rfl rfl rfl ((x_leak 8 false (hf xs) 0 (by decide) rfl 0 (by decide) rfl _ _).f (fr_leak _ (by decide) _ _)) (fun h1 f1 => ?_)
    refine ev_aload_n rfl rfl rfl ?_
    refine ev_aload_n rfl rfl rfl ?_
    refine ev_iload_n rfl rfl rfl ?_
    refine ev_iconst (v := 1) rfl rfl (by decide) ?_
    refine ev_iadd rfl rfl ?_
    refine ev_iald (j := 1) rfl rfl rfl (by unfold vp_in; decide) (by decide) ?_
    try simp only [f1 0 _ (Or.inl rfl)]
    refine ev_aload_n rfl rfl rfl ?_
    refine ev_iload_n rfl rfl rfl ?_
    refine ev_iconst (v := 2) rfl rfl (by decide) ?_
    refine ev_iadd rfl rfl ?_
    refine ev_iald (j := 2) rfl rfl rfl (by unfold vp_in; decide) (by decide) ?_
    try simp only [f1 0 _ (Or.inl rfl)]
    refine ev_if_eq rfl rfl (fun c_531 => ?_) (fun c_531 => ?_)
    · refine ev_iconst (v := 0) rfl rfl (by decide) ?_
      refine ev_V2X rfl rfl lk_L_60 vt_X10_leak rfl rfl rfl rfl rfl (m_leak 8 false h1 ((f1 63 5 (Or.inr (by decide))).trans rfl) _ _) (fun h2 => ?_)
      refine ev_icmp_eq rfl rfl (fun c_542 => ?_) (fun z_ => absurd ((by unfold r_leak; rw [if_pos (show z_has _ (hf xs 4 7) = 0 from z_has0 _)])) z_)
      exact w_fin _
    · refine ev_iconst (v := 1) rfl rfl (by decide) ?_
      refine ev_goto rfl rfl ?_
      refine ev_V2X rfl rfl lk_L_60 vt_X10_leak rfl rfl rfl rfl rfl (m_leak 8 false h1 ((f1 63 5 (Or.inr (by decide))).trans rfl) _ _) (fun h2 => ?_)
      refine ev_icmp_eq rfl rfl (fun c_542 => ?_) (fun z_ => absurd ((by unfold r_leak; rw [if_pos (show z_has _ (hf xs 4 7) = 0 from z_has0 _)])) z_)
      exact w_fin _
  · refine ev_iconst (v := 1) rfl rfl (by decide) ?_
    refine ev_goto rfl rfl ?_
    refine ev_V2F rfl rfl lk_L_56 vt_X9_leak rfl rfl rfl rfl rfl ((x_leak 8 false (hf xs) 0 (by decide) rfl 0 (by decide) rfl _ _).f (fr_leak _ (by decide) _ _)) (fun h1 f1 => ?_)
    refine ev_aload_n rfl rfl rfl ?_
    refine ev_aload_n rfl rfl rfl ?_
    refine ev_iload_n rfl rfl rfl ?_
    refine ev_iconst (v := 1) rfl rfl (by decide) ?_
    refine ev_iadd rfl rfl ?_
    refine ev_iald (j := 1) rfl rfl rfl (by unfold vp_in; decide) (by decide) ?_
    try simp only [f1 0 _ (Or.inl rfl)]
    refine ev_aload_n rfl rfl rfl ?_
    refine ev_iload_n rfl rfl rfl ?_
    refine ev_iconst (v := 2) rfl rfl (by decide) ?_
    refine ev_iadd rfl rfl ?_
    refine ev_iald (j := 2) rfl rfl rfl (by unfold vp_in; decide) (by decide) ?_
    try simp only [f1 0 _ (Or.inl rfl)]
    refine ev_if_eq rfl rfl (fun c_531 => ?_) (fun c_531 => ?_)
    · refine ev_iconst (v := 0) rfl rfl (by decide) ?_
      refine ev_V2X rfl rfl lk_L_60 vt_X10_leak rfl rfl rfl rfl rfl (m_leak 8 false h1 ((f1 63 5 (Or.inr (by decide))).trans rfl) _ _) (fun h2 => ?_)
      refine ev_icmp_eq rfl rfl (fun c_542 => ?_) (fun z_ => absurd ((by unfold r_leak; rw [if_pos (show z_has _ (hf xs 4 7) = 0 from z_has0 _)])) z_)
      exact w_fin _
    · refine ev_iconst (v := 1) rfl rfl (by decide) ?_
      refine ev_goto rfl rfl ?_
      refine ev_V2X rfl rfl lk_L_60 vt_X10_leak rfl rfl rfl rfl rfl (m_leak 8 false h1 ((f1 63 5 (Or.inr (by decide))).trans rfl) _ _) (fun h2 => ?_)
      refine ev_icmp_eq rfl rfl (fun c_542 => ?_) (fun z_ => absurd ((by unfold r_leak; rw [if_pos (show z_has _ (hf xs 4 7) = 0 from z_has0 _)])) z_)
      exact w_fin _

set_option maxRecDepth 100000 in
set_option maxHeartbeats 4000000 in
theorem w_c_pitch (xs : Nat → Int32) : EvQ mi_L_law 547 [some (.ref 0), some (.ref 1), some (.ref 63), some (.int 0)] [] (G0 8 false) (hf xs) 0 0 QL := by
  refine ev_aload_n rfl rfl rfl ?_
  refine ev_aload_n rfl rfl rfl ?_
  refine ev_iload_n rfl rfl rfl ?_
  refine ev_iconst (v := 1) rfl rfl (by decide) ?_
  refine ev_iadd rfl rfl ?_
  refine ev_iald (j := 1) rfl rfl rfl (by unfold vp_in; decide) (by decide) ?_
  refine ev_aload_n rfl rfl rfl ?_
  refine ev_iload_n rfl rfl rfl ?_
  refine ev_iconst (v := 2) rfl rfl (by decide) ?_
  refine ev_iadd rfl rfl ?_
  refine ev_iald (j := 2) rfl rfl rfl (by unfold vp_in; decide) (by decide) ?_
  refine ev_V2F rfl rfl lk_L_61 vt_X9_pitch rfl rfl rfl rfl rfl ((x_pitch 8 false (hf xs) 0 (by decide) rfl _ _).f ((Fr.refl _))) (fun h1 f1 => ?_)
  refine ev_aload_n rfl rfl rfl ?_
  refine ev_aload_n rfl rfl rfl ?_
  refine ev_iload_n rfl rfl rfl ?_
  refine ev_iconst (v := 1) rfl rfl (by decide) ?_
  refine ev_iadd rfl rfl ?_
  refine ev_iald (j := 1) rfl rfl rfl (by unfold vp_in; decide) (by decide) ?_
  try simp only [f1 0 _ (Or.inl rfl)]
  refine ev_aload_n rfl rfl rfl ?_
  refine ev_iload_n rfl rfl rfl ?_
  refine ev_iconst (v := 2) rfl rfl (by decide) ?_
  refine ev_iadd rfl rfl ?_
  refine ev_iald (j := 2) rfl rfl rfl (by unfold vp_in; decide) (by decide) ?_
  try simp only [f1 0 _ (Or.inl rfl)]
  refine ev_V2X rfl rfl lk_L_64 vt_X10_pitch rfl rfl rfl rfl rfl (m_pitch 8 false h1 ((f1 63 5 (Or.inr (by decide))).trans rfl) _ _) (fun h2 => ?_)
  refine ev_icmp_eq rfl rfl (fun c_575 => ?_) (fun z_ => absurd ((by unfold r_pitch; rw [if_pos (show z_has _ (hf xs 4 7) = 0 from z_has0 _)])) z_)
  exact w_fin _

set_option maxRecDepth 100000 in
set_option maxHeartbeats 4000000 in
theorem w_c_holds (xs : Nat → Int32) : EvQ mi_L_law 580 [some (.ref 0), some (.ref 1), some (.ref 63), some (.int 0)] [] (G0 8 false) (hf xs) 0 0 QL := by
  refine ev_aload_n rfl rfl rfl ?_
  refine ev_aload_n rfl rfl rfl ?_
  refine ev_iload_n rfl rfl rfl ?_
  refine ev_iconst (v := 1) rfl rfl (by decide) ?_
  refine ev_iadd rfl rfl ?_
  refine ev_iald (j := 1) rfl rfl rfl (by unfold vp_in; decide) (by decide) ?_
  refine ev_aload_n rfl rfl rfl ?_
  refine ev_iload_n rfl rfl rfl ?_
  refine ev_iconst (v := 2) rfl rfl (by decide) ?_
  refine ev_iadd rfl rfl ?_
  refine ev_iald (j := 2) rfl rfl rfl (by unfold vp_in; decide) (by decide) ?_
  refine ev_V2F rfl rfl lk_L_65 vt_X9_holds rfl rfl rfl rfl rfl ((f_holds 8 false (hf xs) rfl _ _).f ((Fr.refl _))) (fun h1 f1 => ?_)
  refine ev_aload_n rfl rfl rfl ?_
  refine ev_aload_n rfl rfl rfl ?_
  refine ev_iload_n rfl rfl rfl ?_
  refine ev_iconst (v := 1) rfl rfl (by decide) ?_
  refine ev_iadd rfl rfl ?_
  refine ev_iald (j := 1) rfl rfl rfl (by unfold vp_in; decide) (by decide) ?_
  try simp only [f1 0 _ (Or.inl rfl)]
  refine ev_aload_n rfl rfl rfl ?_
  refine ev_iload_n rfl rfl rfl ?_
  refine ev_iconst (v := 2) rfl rfl (by decide) ?_
  refine ev_iadd rfl rfl ?_
  refine ev_iald (j := 2) rfl rfl rfl (by unfold vp_in; decide) (by decide) ?_
  try simp only [f1 0 _ (Or.inl rfl)]
  refine ev_V2X rfl rfl lk_L_68 vt_X10_holds rfl rfl rfl rfl rfl (m_holds 8 false h1 ((f1 63 5 (Or.inr (by decide))).trans rfl) _ _) (fun h2 => ?_)
  refine ev_icmp_eq rfl rfl (fun c_608 => ?_) (fun z_ => absurd (rfl) z_)
  exact w_fin _

set_option maxRecDepth 100000 in
set_option maxHeartbeats 4000000 in
theorem w_c_tuneAll (xs : Nat → Int32) : EvQ mi_L_law 613 [some (.ref 0), some (.ref 1), some (.ref 63), some (.int 0)] [] (G0 8 false) (hf xs) 0 0 QL := by
  refine ev_aload_n rfl rfl rfl ?_
  refine ev_aload_n rfl rfl rfl ?_
  refine ev_iload_n rfl rfl rfl ?_
  refine ev_iconst (v := 1) rfl rfl (by decide) ?_
  refine ev_iadd rfl rfl ?_
  refine ev_iald (j := 1) rfl rfl rfl (by unfold vp_in; decide) (by decide) ?_
  refine ev_V1F rfl rfl lk_L_69 vt_X9_tuneAll rfl rfl rfl rfl rfl ((x_tuneAll 8 false (hf xs) 0 (by decide) rfl 0 (by decide) rfl _).f (fr_tuneAll _ (by decide) _ _)) (fun h1 f1 => ?_)
  refine ev_aload_n rfl rfl rfl ?_
  refine ev_aload_n rfl rfl rfl ?_
  refine ev_iload_n rfl rfl rfl ?_
  refine ev_iconst (v := 1) rfl rfl (by decide) ?_
  refine ev_iadd rfl rfl ?_
  refine ev_iald (j := 1) rfl rfl rfl (by unfold vp_in; decide) (by decide) ?_
  try simp only [f1 0 _ (Or.inl rfl)]
  refine ev_V1X rfl rfl lk_L_72 vt_X10_tuneAll rfl rfl rfl rfl rfl (m_tuneAll 8 false h1 ((f1 63 13 (Or.inr (by decide))).trans rfl) ((f1 63 5 (Or.inr (by decide))).trans rfl) _) (fun h2 => ?_)
  refine ev_icmp_eq rfl rfl (fun c_631 => ?_) (fun z_ => absurd (r_tuneAll0 rfl _) z_)
  exact w_fin _

set_option maxRecDepth 100000 in
set_option maxHeartbeats 4000000 in
theorem w_c_agree (xs : Nat → Int32) : EvQ mi_L_law 636 [some (.ref 0), some (.ref 1), some (.ref 63), some (.int 0)] [] (G0 8 false) (hf xs) 0 0 QL := by
  refine ev_aload_n rfl rfl rfl ?_
  refine ev_aload_n rfl rfl rfl ?_
  refine ev_iload_n rfl rfl rfl ?_
  refine ev_iconst (v := 1) rfl rfl (by decide) ?_
  refine ev_iadd rfl rfl ?_
  refine ev_iald (j := 1) rfl rfl rfl (by unfold vp_in; decide) (by decide) ?_
  refine ev_V1F rfl rfl lk_L_73 vt_X9_agree rfl rfl rfl rfl rfl ((f_agree 8 false (hf xs) rfl _).f ((Fr.refl _))) (fun h1 f1 => ?_)
  refine ev_aload_n rfl rfl rfl ?_
  refine ev_aload_n rfl rfl rfl ?_
  refine ev_iload_n rfl rfl rfl ?_
  refine ev_iconst (v := 1) rfl rfl (by decide) ?_
  refine ev_iadd rfl rfl ?_
  refine ev_iald (j := 1) rfl rfl rfl (by unfold vp_in; decide) (by decide) ?_
  try simp only [f1 0 _ (Or.inl rfl)]
  refine ev_V1X rfl rfl lk_L_76 vt_X10_agree rfl rfl rfl rfl rfl (m_agree 8 false h1 ((f1 63 5 (Or.inr (by decide))).trans rfl) _) (fun h2 => ?_)
  refine ev_icmp_eq rfl rfl (fun c_654 => ?_) (fun z_ => absurd (rfl) z_)
  exact w_fin _

set_option maxRecDepth 100000 in
set_option maxHeartbeats 4000000 in
theorem w_c_feed (xs : Nat → Int32) : EvQ mi_L_law 659 [some (.ref 0), some (.ref 1), some (.ref 63), some (.int 0)] [] (G0 8 false) (hf xs) 0 0 QL := by
  refine ev_aload_n rfl rfl rfl ?_
  refine ev_aload_n rfl rfl rfl ?_
  refine ev_iload_n rfl rfl rfl ?_
  refine ev_iconst (v := 1) rfl rfl (by decide) ?_
  refine ev_iadd rfl rfl ?_
  refine ev_iald (j := 1) rfl rfl rfl (by unfold vp_in; decide) (by decide) ?_
  refine ev_i2l rfl rfl ?_
  refine ev_bipush (v := 32) rfl rfl (by decide) ?_
  refine ev_lshl rfl rfl ?_
  refine ev_aload_n rfl rfl rfl ?_
  refine ev_iload_n rfl rfl rfl ?_
  refine ev_iconst (v := 2) rfl rfl (by decide) ?_
  refine ev_iadd rfl rfl ?_
  refine ev_iald (j := 2) rfl rfl rfl (by unfold vp_in; decide) (by decide) ?_
  refine ev_i2l rfl rfl ?_
  refine ev_ldc2 rfl rfl kc_L_77 ?_
  refine ev_land rfl rfl ?_
  refine ev_lor rfl rfl ?_
  refine ev_V1F rfl rfl lk_L_79 vt_X9_feed rfl rfl rfl rfl rfl ((x_feed 8 false (hf xs) 0 (by decide) rfl _).f (fr_app _ _ _)) (fun h1 f1 => ?_)
  refine ev_aload_n rfl rfl rfl ?_
  refine ev_aload_n rfl rfl rfl ?_
  refine ev_iload_n rfl rfl rfl ?_
  refine ev_iconst (v := 1) rfl rfl (by decide) ?_
  refine ev_iadd rfl rfl ?_
  refine ev_iald (j := 1) rfl rfl rfl (by unfold vp_in; decide) (by decide) ?_
  try simp only [f1 0 _ (Or.inl rfl)]
  refine ev_i2l rfl rfl ?_
  refine ev_bipush (v := 32) rfl rfl (by decide) ?_
  refine ev_lshl rfl rfl ?_
  refine ev_aload_n rfl rfl rfl ?_
  refine ev_iload_n rfl rfl rfl ?_
  refine ev_iconst (v := 2) rfl rfl (by decide) ?_
  refine ev_iadd rfl rfl ?_
  refine ev_iald (j := 2) rfl rfl rfl (by unfold vp_in; decide) (by decide) ?_
  try simp only [f1 0 _ (Or.inl rfl)]
  refine ev_i2l rfl rfl ?_
  refine ev_ldc2 rfl rfl kc_L_77 ?_
  refine ev_land rfl rfl ?_
  refine ev_lor rfl rfl ?_
  refine ev_V1X rfl rfl lk_L_83 vt_X10_feed rfl rfl rfl rfl rfl (m_feed 8 false h1 ((f1 63 16 (Or.inr (by decide))).trans rfl) _) (fun h2 => ?_)
  refine ev_icmp_eq rfl rfl (fun c_707 => ?_) (fun z_ => absurd (rfl) z_)
  exact w_fin _

set_option maxRecDepth 100000 in
set_option maxHeartbeats 4000000 in
theorem w_c_end (xs : Nat → Int32) : EvQ mi_L_law 712 [some (.ref 0), some (.ref 1), some (.ref 63), some (.int 0)] [] (G0 8 false) (hf xs) 0 0 QL := by
  refine ev_aload_n rfl rfl rfl ?_
  refine ev_aload_n rfl rfl rfl ?_
  refine ev_iload_n rfl rfl rfl ?_
  refine ev_iconst (v := 1) rfl rfl (by decide) ?_
  refine ev_iadd rfl rfl ?_
  refine ev_iald (j := 1) rfl rfl rfl (by unfold vp_in; decide) (by decide) ?_
  refine ev_V1F rfl rfl lk_L_84 vt_X9_end rfl rfl rfl rfl rfl ((x_end 8 false (hf xs) _).f (Fr.ite (fun _ => Fr.refl _) (fun _ => (Fr.refl _).set (by decide) (by decide)))) (fun h1 f1 => ?_)
  refine ev_aload_n rfl rfl rfl ?_
  refine ev_aload_n rfl rfl rfl ?_
  refine ev_iload_n rfl rfl rfl ?_
  refine ev_iconst (v := 1) rfl rfl (by decide) ?_
  refine ev_iadd rfl rfl ?_
  refine ev_iald (j := 1) rfl rfl rfl (by unfold vp_in; decide) (by decide) ?_
  try simp only [f1 0 _ (Or.inl rfl)]
  refine ev_V1X rfl rfl lk_L_87 vt_X10_end rfl rfl rfl rfl rfl (m_end 8 false h1 _) (fun h2 => ?_)
  refine ev_icmp_eq rfl rfl (fun c_730 => ?_) (fun z_ => absurd (by simp only [f1 63 _ (Or.inr (Nat.le_refl 63))]; rfl) z_)
  exact w_fin _

set_option maxRecDepth 100000 in
set_option maxHeartbeats 4000000 in
theorem w_c_tune (xs : Nat → Int32) : EvQ mi_L_law 735 [some (.ref 0), some (.ref 1), some (.ref 63), some (.int 0)] [] (G0 8 false) (hf xs) 0 0 QL := by
  refine ev_aload_n rfl rfl rfl ?_
  refine ev_V0F rfl rfl lk_L_88 vt_X9_tune rfl rfl rfl rfl rfl ((f_tune 8 false (hf xs) rfl rfl).f ((fr_rd0 _).set (by decide) (by decide))) (fun h1 f1 => ?_)
  refine ev_aload_n rfl rfl rfl ?_
  refine ev_V0X rfl rfl lk_L_92 vt_X10_tune rfl rfl rfl rfl rfl (m_tune 8 false h1 ((f1 63 23 (Or.inr (by decide))).trans rfl) ((f1 63 16 (Or.inr (by decide))).trans rfl)) (fun h2 => ?_)
  refine ev_icmp_eq rfl rfl (fun c_743 => ?_) (fun z_ => absurd (rfl) z_)
  exact w_fin _

set_option maxRecDepth 100000 in
set_option maxHeartbeats 4000000 in
theorem w_c_fault (xs : Nat → Int32) : EvQ mi_L_law 748 [some (.ref 0), some (.ref 1), some (.ref 63), some (.int 0)] [] (G0 8 false) (hf xs) 0 0 QL := by
  refine ev_aload_n rfl rfl rfl ?_
  refine ev_V0F rfl rfl lk_L_93 vt_X9_fault rfl rfl rfl rfl rfl ((x_fault 8 false (hf xs)).f ((Fr.refl _))) (fun h1 f1 => ?_)
  refine ev_aload_n rfl rfl rfl ?_
  refine ev_V0X rfl rfl lk_L_96 vt_X10_fault rfl rfl rfl rfl rfl (m_fault 8 false h1) (fun h2 => ?_)
  refine ev_icmp_eq rfl rfl (fun c_756 => ?_) (fun z_ => absurd (by simp only [f1 63 _ (Or.inr (Nat.le_refl 63))]; rfl) z_)
  exact w_fin _

set_option maxRecDepth 100000 in
set_option maxHeartbeats 4000000 in
theorem w_c_tuneOf (xs : Nat → Int32) : EvQ mi_L_law 761 [some (.ref 0), some (.ref 1), some (.ref 63), some (.int 0)] [] (G0 8 false) (hf xs) 0 0 QL := by
  refine ev_aload_n rfl rfl rfl ?_
  refine ev_aload_n rfl rfl rfl ?_
  refine ev_iload_n rfl rfl rfl ?_
  refine ev_iconst (v := 1) rfl rfl (by decide) ?_
  refine ev_iadd rfl rfl ?_
  refine ev_iald (j := 1) rfl rfl rfl (by unfold vp_in; decide) (by decide) ?_
  refine ev_aload_n rfl rfl rfl ?_
  refine ev_iload_n rfl rfl rfl ?_
  refine ev_iconst (v := 2) rfl rfl (by decide) ?_
  refine ev_iadd rfl rfl ?_
  refine ev_iald (j := 2) rfl rfl rfl (by unfold vp_in; decide) (by decide) ?_
  refine ev_V2F rfl rfl lk_L_97 vt_X9_tuneOf rfl rfl rfl rfl rfl ((f_tuneOf 8 false (hf xs) rfl _ _).f ((Fr.refl _))) (fun h1 f1 => ?_)
  refine ev_aload_n rfl rfl rfl ?_
  refine ev_aload_n rfl rfl rfl ?_
  refine ev_iload_n rfl rfl rfl ?_
  refine ev_iconst (v := 1) rfl rfl (by decide) ?_
  refine ev_iadd rfl rfl ?_
  refine ev_iald (j := 1) rfl rfl rfl (by unfold vp_in; decide) (by decide) ?_
  try simp only [f1 0 _ (Or.inl rfl)]
  refine ev_aload_n rfl rfl rfl ?_
  refine ev_iload_n rfl rfl rfl ?_
  refine ev_iconst (v := 2) rfl rfl (by decide) ?_
  refine ev_iadd rfl rfl ?_
  refine ev_iald (j := 2) rfl rfl rfl (by unfold vp_in; decide) (by decide) ?_
  try simp only [f1 0 _ (Or.inl rfl)]
  refine ev_V2X rfl rfl lk_L_100 vt_X10_tuneOf rfl rfl rfl rfl rfl (m_tuneOf 8 false h1 ((f1 63 23 (Or.inr (by decide))).trans rfl) _ _) (fun h2 => ?_)
  refine ev_icmp_eq rfl rfl (fun c_789 => ?_) (fun z_ => absurd (rfl) z_)
  exact w_fin _

set_option maxRecDepth 100000 in
set_option maxHeartbeats 4000000 in
theorem w_c_play (xs : Nat → Int32) : EvQ mi_L_law 794 [some (.ref 0), some (.ref 1), some (.ref 63), some (.int 0)] [] (G0 8 false) (hf xs) 0 0 QL := by
  refine ev_aload_n rfl rfl rfl ?_
  refine ev_aload_n rfl rfl rfl ?_
  refine ev_iload_n rfl rfl rfl ?_
  refine ev_iconst (v := 1) rfl rfl (by decide) ?_
  refine ev_iadd rfl rfl ?_
  refine ev_iald (j := 1) rfl rfl rfl (by unfold vp_in; decide) (by decide) ?_
  refine ev_aload_n rfl rfl rfl ?_
  refine ev_iload_n rfl rfl rfl ?_
  refine ev_iconst (v := 2) rfl rfl (by decide) ?_
  refine ev_iadd rfl rfl ?_
  refine ev_iald (j := 2) rfl rfl rfl (by unfold vp_in; decide) (by decide) ?_
  refine ev_V2F rfl rfl lk_L_101 vt_X9_play rfl rfl rfl rfl rfl ((f_play 8 false (hf xs) rfl _ _).f ((Fr.refl _))) (fun h1 f1 => ?_)
  refine ev_aload_n rfl rfl rfl ?_
  refine ev_aload_n rfl rfl rfl ?_
  refine ev_iload_n rfl rfl rfl ?_
  refine ev_iconst (v := 1) rfl rfl (by decide) ?_
  refine ev_iadd rfl rfl ?_
  refine ev_iald (j := 1) rfl rfl rfl (by unfold vp_in; decide) (by decide) ?_
  try simp only [f1 0 _ (Or.inl rfl)]
  refine ev_aload_n rfl rfl rfl ?_
  refine ev_iload_n rfl rfl rfl ?_
  refine ev_iconst (v := 2) rfl rfl (by decide) ?_
  refine ev_iadd rfl rfl ?_
  refine ev_iald (j := 2) rfl rfl rfl (by unfold vp_in; decide) (by decide) ?_
  try simp only [f1 0 _ (Or.inl rfl)]
  refine ev_V2X rfl rfl lk_L_104 vt_X10_play rfl rfl rfl rfl rfl (m_play 8 false h1 ((f1 63 23 (Or.inr (by decide))).trans rfl) _ _) (fun h2 => ?_)
  refine ev_icmp_eq rfl rfl (fun c_822 => ?_) (fun z_ => absurd (rfl) z_)
  exact w_fin _

set_option maxRecDepth 100000 in
set_option maxHeartbeats 4000000 in
theorem w_c_would (xs : Nat → Int32) : EvQ mi_L_law 827 [some (.ref 0), some (.ref 1), some (.ref 63), some (.int 0)] [] (G0 8 false) (hf xs) 0 0 QL := by
  refine ev_aload_n rfl rfl rfl ?_
  refine ev_aload_n rfl rfl rfl ?_
  refine ev_iload_n rfl rfl rfl ?_
  refine ev_iconst (v := 1) rfl rfl (by decide) ?_
  refine ev_iadd rfl rfl ?_
  refine ev_iald (j := 1) rfl rfl rfl (by unfold vp_in; decide) (by decide) ?_
  refine ev_aload_n rfl rfl rfl ?_
  refine ev_iload_n rfl rfl rfl ?_
  refine ev_iconst (v := 2) rfl rfl (by decide) ?_
  refine ev_iadd rfl rfl ?_
  refine ev_iald (j := 2) rfl rfl rfl (by unfold vp_in; decide) (by decide) ?_
  refine ev_V2F rfl rfl lk_L_105 vt_X9_would rfl rfl rfl rfl rfl ((f_would 8 false (hf xs) rfl _ _).f ((Fr.refl _))) (fun h1 f1 => ?_)
  refine ev_aload_n rfl rfl rfl ?_
  refine ev_aload_n rfl rfl rfl ?_
  refine ev_iload_n rfl rfl rfl ?_
  refine ev_iconst (v := 1) rfl rfl (by decide) ?_
  refine ev_iadd rfl rfl ?_
  refine ev_iald (j := 1) rfl rfl rfl (by unfold vp_in; decide) (by decide) ?_
  try simp only [f1 0 _ (Or.inl rfl)]
  refine ev_aload_n rfl rfl rfl ?_
  refine ev_iload_n rfl rfl rfl ?_
  refine ev_iconst (v := 2) rfl rfl (by decide) ?_
  refine ev_iadd rfl rfl ?_
  refine ev_iald (j := 2) rfl rfl rfl (by unfold vp_in; decide) (by decide) ?_
  try simp only [f1 0 _ (Or.inl rfl)]
  refine ev_V2X rfl rfl lk_L_108 vt_X10_would rfl rfl rfl rfl rfl (m_would 8 false h1 ((f1 63 23 (Or.inr (by decide))).trans rfl) _ _) (fun h2 => ?_)
  refine ev_icmp_eq rfl rfl (fun c_855 => ?_) (fun z_ => absurd (rfl) z_)
  exact w_fin _

set_option maxRecDepth 100000 in
set_option maxHeartbeats 4000000 in
theorem w_c_key (xs : Nat → Int32) : EvQ mi_L_law 860 [some (.ref 0), some (.ref 1), some (.ref 63), some (.int 0)] [] (G0 8 false) (hf xs) 0 0 QL := by
  refine ev_aload_n rfl rfl rfl ?_
  refine ev_aload_n rfl rfl rfl ?_
  refine ev_iload_n rfl rfl rfl ?_
  refine ev_iconst (v := 1) rfl rfl (by decide) ?_
  refine ev_iadd rfl rfl ?_
  refine ev_iald (j := 1) rfl rfl rfl (by unfold vp_in; decide) (by decide) ?_
  refine ev_aload_n rfl rfl rfl ?_
  refine ev_iload_n rfl rfl rfl ?_
  refine ev_iconst (v := 2) rfl rfl (by decide) ?_
  refine ev_iadd rfl rfl ?_
  refine ev_iald (j := 2) rfl rfl rfl (by unfold vp_in; decide) (by decide) ?_
  refine ev_V2F rfl rfl lk_L_109 vt_X9_key rfl rfl rfl rfl rfl ((f_key 8 false (hf xs) rfl _ _).f ((Fr.refl _))) (fun h1 f1 => ?_)
  refine ev_aload_n rfl rfl rfl ?_
  refine ev_aload_n rfl rfl rfl ?_
  refine ev_iload_n rfl rfl rfl ?_
  refine ev_iconst (v := 1) rfl rfl (by decide) ?_
  refine ev_iadd rfl rfl ?_
  refine ev_iald (j := 1) rfl rfl rfl (by unfold vp_in; decide) (by decide) ?_
  try simp only [f1 0 _ (Or.inl rfl)]
  refine ev_aload_n rfl rfl rfl ?_
  refine ev_iload_n rfl rfl rfl ?_
  refine ev_iconst (v := 2) rfl rfl (by decide) ?_
  refine ev_iadd rfl rfl ?_
  refine ev_iald (j := 2) rfl rfl rfl (by unfold vp_in; decide) (by decide) ?_
  try simp only [f1 0 _ (Or.inl rfl)]
  refine ev_V2X rfl rfl lk_L_112 vt_X10_key rfl rfl rfl rfl rfl (m_key 8 false h1 ((f1 63 23 (Or.inr (by decide))).trans rfl) _ _) (fun h2 => ?_)
  refine ev_icmp_eq rfl rfl (fun c_888 => ?_) (fun z_ => absurd (rfl) z_)
  exact w_fin _

set_option maxRecDepth 100000 in
set_option maxHeartbeats 4000000 in
theorem w_c_set (xs : Nat → Int32) : EvQ mi_L_law 893 [some (.ref 0), some (.ref 1), some (.ref 63), some (.int 0)] [] (G0 8 false) (hf xs) 0 0 QL := by
  refine ev_aload_n rfl rfl rfl ?_
  refine ev_aload_n rfl rfl rfl ?_
  refine ev_iload_n rfl rfl rfl ?_
  refine ev_iconst (v := 1) rfl rfl (by decide) ?_
  refine ev_iadd rfl rfl ?_
  refine ev_iald (j := 1) rfl rfl rfl (by unfold vp_in; decide) (by decide) ?_
  refine ev_aload_n rfl rfl rfl ?_
  refine ev_iload_n rfl rfl rfl ?_
  refine ev_iconst (v := 2) rfl rfl (by decide) ?_
  refine ev_iadd rfl rfl ?_
  refine ev_iald (j := 2) rfl rfl rfl (by unfold vp_in; decide) (by decide) ?_
  refine ev_aload_n rfl rfl rfl ?_
  refine ev_iload_n rfl rfl rfl ?_
  refine ev_iconst (v := 3) rfl rfl (by decide) ?_
  refine ev_iadd rfl rfl ?_
  refine ev_iald (j := 3) rfl rfl rfl (by unfold vp_in; decide) (by decide) ?_
  refine ev_aload_n rfl rfl rfl ?_
  refine ev_iload_n rfl rfl rfl ?_
  refine ev_iconst (v := 4) rfl rfl (by decide) ?_
  refine ev_iadd rfl rfl ?_
  refine ev_iald (j := 4) rfl rfl rfl (by unfold vp_in; decide) (by decide) ?_
  refine ev_aload_n rfl rfl rfl ?_
  refine ev_iload_n rfl rfl rfl ?_
  refine ev_iconst (v := 5) rfl rfl (by decide) ?_
  refine ev_iadd rfl rfl ?_
  refine ev_iald (j := 5) rfl rfl rfl (by unfold vp_in; decide) (by decide) ?_
  refine ev_V5F rfl rfl lk_L_113 vt_X9_set rfl rfl rfl rfl rfl ((f_set 8 false (hf xs) rfl _ _ _ _ _).f ((Fr.refl _))) (fun h1 f1 => ?_)
  refine ev_aload_n rfl rfl rfl ?_
  refine ev_aload_n rfl rfl rfl ?_
  refine ev_iload_n rfl rfl rfl ?_
  refine ev_iconst (v := 1) rfl rfl (by decide) ?_
  refine ev_iadd rfl rfl ?_
  refine ev_iald (j := 1) rfl rfl rfl (by unfold vp_in; decide) (by decide) ?_
  try simp only [f1 0 _ (Or.inl rfl)]
  refine ev_aload_n rfl rfl rfl ?_
  refine ev_iload_n rfl rfl rfl ?_
  refine ev_iconst (v := 2) rfl rfl (by decide) ?_
  refine ev_iadd rfl rfl ?_
  refine ev_iald (j := 2) rfl rfl rfl (by unfold vp_in; decide) (by decide) ?_
  try simp only [f1 0 _ (Or.inl rfl)]
  refine ev_aload_n rfl rfl rfl ?_
  refine ev_iload_n rfl rfl rfl ?_
  refine ev_iconst (v := 3) rfl rfl (by decide) ?_
  refine ev_iadd rfl rfl ?_
  refine ev_iald (j := 3) rfl rfl rfl (by unfold vp_in; decide) (by decide) ?_
  try simp only [f1 0 _ (Or.inl rfl)]
  refine ev_aload_n rfl rfl rfl ?_
  refine ev_iload_n rfl rfl rfl ?_
  refine ev_iconst (v := 4) rfl rfl (by decide) ?_
  refine ev_iadd rfl rfl ?_
  refine ev_iald (j := 4) rfl rfl rfl (by unfold vp_in; decide) (by decide) ?_
  try simp only [f1 0 _ (Or.inl rfl)]
  refine ev_aload_n rfl rfl rfl ?_
  refine ev_iload_n rfl rfl rfl ?_
  refine ev_iconst (v := 5) rfl rfl (by decide) ?_
  refine ev_iadd rfl rfl ?_
  refine ev_iald (j := 5) rfl rfl rfl (by unfold vp_in; decide) (by decide) ?_
  try simp only [f1 0 _ (Or.inl rfl)]
  refine ev_V5X rfl rfl lk_L_117 vt_X10_set rfl rfl rfl rfl rfl (m_set 8 false h1 ((f1 63 23 (Or.inr (by decide))).trans rfl) _ _ _ _ _) (fun h2 => ?_)
  refine ev_icmp_eq rfl rfl (fun c_951 => ?_) (fun z_ => absurd (rfl) z_)
  exact w_fin _

set_option maxRecDepth 100000 in
set_option maxHeartbeats 4000000 in
theorem w_c_blame (xs : Nat → Int32) : EvQ mi_L_law 956 [some (.ref 0), some (.ref 1), some (.ref 63), some (.int 0)] [] (G0 8 false) (hf xs) 0 0 QL := by
  refine ev_aload_n rfl rfl rfl ?_
  refine ev_aload_n rfl rfl rfl ?_
  refine ev_iload_n rfl rfl rfl ?_
  refine ev_iconst (v := 1) rfl rfl (by decide) ?_
  refine ev_iadd rfl rfl ?_
  refine ev_iald (j := 1) rfl rfl rfl (by unfold vp_in; decide) (by decide) ?_
  refine ev_aload_n rfl rfl rfl ?_
  refine ev_iload_n rfl rfl rfl ?_
  refine ev_iconst (v := 2) rfl rfl (by decide) ?_
  refine ev_iadd rfl rfl ?_
  refine ev_iald (j := 2) rfl rfl rfl (by unfold vp_in; decide) (by decide) ?_
  refine ev_aload_n rfl rfl rfl ?_
  refine ev_iload_n rfl rfl rfl ?_
  refine ev_iconst (v := 3) rfl rfl (by decide) ?_
  refine ev_iadd rfl rfl ?_
  refine ev_iald (j := 3) rfl rfl rfl (by unfold vp_in; decide) (by decide) ?_
  refine ev_aload_n rfl rfl rfl ?_
  refine ev_iload_n rfl rfl rfl ?_
  refine ev_iconst (v := 4) rfl rfl (by decide) ?_
  refine ev_iadd rfl rfl ?_
  refine ev_iald (j := 4) rfl rfl rfl (by unfold vp_in; decide) (by decide) ?_
  refine ev_aload_n rfl rfl rfl ?_
  refine ev_iload_n rfl rfl rfl ?_
  refine ev_iconst (v := 5) rfl rfl (by decide) ?_
  refine ev_iadd rfl rfl ?_
  refine ev_iald (j := 5) rfl rfl rfl (by unfold vp_in; decide) (by decide) ?_
  refine ev_aload_n rfl rfl rfl ?_
  refine ev_iload_n rfl rfl rfl ?_
  refine ev_bipush (v := 6) rfl rfl (by decide) ?_
  refine ev_iadd rfl rfl ?_
  refine ev_iald (j := 6) rfl rfl rfl (by unfold vp_in; decide) (by decide) ?_
  refine ev_aload_n rfl rfl rfl ?_
  refine ev_iload_n rfl rfl rfl ?_
  refine ev_bipush (v := 7) rfl rfl (by decide) ?_
  refine ev_iadd rfl rfl ?_
  refine ev_iald (j := 7) rfl rfl rfl (by unfold vp_in; decide) (by decide) ?_
  refine ev_V7F rfl rfl lk_L_118 vt_X9_blame rfl rfl rfl rfl rfl ((f_blame 8 false (hf xs) rfl _ _ _ _ _ _ _).f ((Fr.refl _))) (fun h1 f1 => ?_)
  refine ev_aload_n rfl rfl rfl ?_
  refine ev_aload_n rfl rfl rfl ?_
  refine ev_iload_n rfl rfl rfl ?_
  refine ev_iconst (v := 1) rfl rfl (by decide) ?_
  refine ev_iadd rfl rfl ?_
  refine ev_iald (j := 1) rfl rfl rfl (by unfold vp_in; decide) (by decide) ?_
  try simp only [f1 0 _ (Or.inl rfl)]
  refine ev_aload_n rfl rfl rfl ?_
  refine ev_iload_n rfl rfl rfl ?_
  refine ev_iconst (v := 2) rfl rfl (by decide) ?_
  refine ev_iadd rfl rfl ?_
  refine ev_iald (j := 2) rfl rfl rfl (by unfold vp_in; decide) (by decide) ?_
  try simp only [f1 0 _ (Or.inl rfl)]
  refine ev_aload_n rfl rfl rfl ?_
  refine ev_iload_n rfl rfl rfl ?_
  refine ev_iconst (v := 3) rfl rfl (by decide) ?_
  refine ev_iadd rfl rfl ?_
  refine ev_iald (j := 3) rfl rfl rfl (by unfold vp_in; decide) (by decide) ?_
  try simp only [f1 0 _ (Or.inl rfl)]
  refine ev_aload_n rfl rfl rfl ?_
  refine ev_iload_n rfl rfl rfl ?_
  refine ev_iconst (v := 4) rfl rfl (by decide) ?_
  refine ev_iadd rfl rfl ?_
  refine ev_iald (j := 4) rfl rfl rfl (by unfold vp_in; decide) (by decide) ?_
  try simp only [f1 0 _ (Or.inl rfl)]
  refine ev_aload_n rfl rfl rfl ?_
  refine ev_iload_n rfl rfl rfl ?_
  refine ev_iconst (v := 5) rfl rfl (by decide) ?_
  refine ev_iadd rfl rfl ?_
  refine ev_iald (j := 5) rfl rfl rfl (by unfold vp_in; decide) (by decide) ?_
  try simp only [f1 0 _ (Or.inl rfl)]
  refine ev_aload_n rfl rfl rfl ?_
  refine ev_iload_n rfl rfl rfl ?_
  refine ev_bipush (v := 6) rfl rfl (by decide) ?_
  refine ev_iadd rfl rfl ?_
  refine ev_iald (j := 6) rfl rfl rfl (by unfold vp_in; decide) (by decide) ?_
  try simp only [f1 0 _ (Or.inl rfl)]
  refine ev_aload_n rfl rfl rfl ?_
  refine ev_iload_n rfl rfl rfl ?_
  refine ev_bipush (v := 7) rfl rfl (by decide) ?_
  refine ev_iadd rfl rfl ?_
  refine ev_iald (j := 7) rfl rfl rfl (by unfold vp_in; decide) (by decide) ?_
  try simp only [f1 0 _ (Or.inl rfl)]
  refine ev_V7X rfl rfl lk_L_122 vt_X10_blame rfl rfl rfl rfl rfl (m_blame 8 false h1 ((f1 63 23 (Or.inr (by decide))).trans rfl) _ _ _ _ _ _ _) (fun h2 => ?_)
  refine ev_icmp_eq rfl rfl (fun c_1038 => ?_) (fun z_ => absurd (rfl) z_)
  exact w_fin _

set_option maxRecDepth 100000 in
set_option maxHeartbeats 4000000 in
theorem w_c_boat (xs : Nat → Int32) : EvQ mi_L_law 1043 [some (.ref 0), some (.ref 1), some (.ref 63), some (.int 0)] [] (G0 8 false) (hf xs) 0 0 QL := by
  refine ev_aload_n rfl rfl rfl ?_
  refine ev_aload_n rfl rfl rfl ?_
  refine ev_iload_n rfl rfl rfl ?_
  refine ev_iconst (v := 1) rfl rfl (by decide) ?_
  refine ev_iadd rfl rfl ?_
  refine ev_iald (j := 1) rfl rfl rfl (by unfold vp_in; decide) (by decide) ?_
  refine ev_aload_n rfl rfl rfl ?_
  refine ev_iload_n rfl rfl rfl ?_
  refine ev_iconst (v := 2) rfl rfl (by decide) ?_
  refine ev_iadd rfl rfl ?_
  refine ev_iald (j := 2) rfl rfl rfl (by unfold vp_in; decide) (by decide) ?_
  refine ev_V2F rfl rfl lk_L_123 vt_X9_boat rfl rfl rfl rfl rfl ((x_boat 8 false (hf xs) 0 (by decide) rfl _ _).f (Fr.ite (fun _ => Fr.refl _) (fun _ => Fr.ite (fun _ => Fr.refl _) (fun _ => fr_boat _ _ _ _)))) (fun h1 f1 => ?_)
  refine ev_aload_n rfl rfl rfl ?_
  refine ev_aload_n rfl rfl rfl ?_
  refine ev_iload_n rfl rfl rfl ?_
  refine ev_iconst (v := 1) rfl rfl (by decide) ?_
  refine ev_iadd rfl rfl ?_
  refine ev_iald (j := 1) rfl rfl rfl (by unfold vp_in; decide) (by decide) ?_
  try simp only [f1 0 _ (Or.inl rfl)]
  refine ev_aload_n rfl rfl rfl ?_
  refine ev_iload_n rfl rfl rfl ?_
  refine ev_iconst (v := 2) rfl rfl (by decide) ?_
  refine ev_iadd rfl rfl ?_
  refine ev_iald (j := 2) rfl rfl rfl (by unfold vp_in; decide) (by decide) ?_
  try simp only [f1 0 _ (Or.inl rfl)]
  refine ev_V2X rfl rfl lk_L_126 vt_X10_boat rfl rfl rfl rfl rfl (m_boat 8 false h1 ((f1 63 45 (Or.inr (by decide))).trans rfl) _ _) (fun h2 => ?_)
  refine ev_icmp_eq rfl rfl (fun c_1071 => ?_) (fun z_ => absurd (z_boat0 rfl _ _) z_)
  exact w_fin _

set_option maxRecDepth 100000 in
set_option maxHeartbeats 4000000 in
theorem w_c_bend (xs : Nat → Int32) : EvQ mi_L_law 1076 [some (.ref 0), some (.ref 1), some (.ref 63), some (.int 0)] [] (G0 8 false) (hf xs) 0 0 QL := by
  refine ev_aload_n rfl rfl rfl ?_
  refine ev_aload_n rfl rfl rfl ?_
  refine ev_iload_n rfl rfl rfl ?_
  refine ev_iconst (v := 1) rfl rfl (by decide) ?_
  refine ev_iadd rfl rfl ?_
  refine ev_iald (j := 1) rfl rfl rfl (by unfold vp_in; decide) (by decide) ?_
  refine ev_aload_n rfl rfl rfl ?_
  refine ev_iload_n rfl rfl rfl ?_
  refine ev_iconst (v := 2) rfl rfl (by decide) ?_
  refine ev_iadd rfl rfl ?_
  refine ev_iald (j := 2) rfl rfl rfl (by unfold vp_in; decide) (by decide) ?_
  refine ev_V2F rfl rfl lk_L_127 vt_X9_bend rfl rfl rfl rfl rfl ((x_bend 8 false (hf xs) 0 (by decide) rfl _ _).f (Fr.ite (fun _ => Fr.refl _) (fun _ => Fr.ite (fun _ => Fr.refl _) (fun _ => Fr.ite (fun _ => fr_bend _ _ _ _) (fun _ => Fr.refl _))))) (fun h1 f1 => ?_)
  refine ev_aload_n rfl rfl rfl ?_
  refine ev_aload_n rfl rfl rfl ?_
  refine ev_iload_n rfl rfl rfl ?_
  refine ev_iconst (v := 1) rfl rfl (by decide) ?_
  refine ev_iadd rfl rfl ?_
  refine ev_iald (j := 1) rfl rfl rfl (by unfold vp_in; decide) (by decide) ?_
  try simp only [f1 0 _ (Or.inl rfl)]
  refine ev_aload_n rfl rfl rfl ?_
  refine ev_iload_n rfl rfl rfl ?_
  refine ev_iconst (v := 2) rfl rfl (by decide) ?_
  refine ev_iadd rfl rfl ?_
  refine ev_iald (j := 2) rfl rfl rfl (by unfold vp_in; decide) (by decide) ?_
  try simp only [f1 0 _ (Or.inl rfl)]
  refine ev_V2X rfl rfl lk_L_130 vt_X10_bend rfl rfl rfl rfl rfl (m_bend 8 false h1 ((f1 63 48 (Or.inr (by decide))).trans rfl) _ _) (fun h2 => ?_)
  refine ev_icmp_eq rfl rfl (fun c_1104 => ?_) (fun z_ => absurd (z_bend0 rfl _ _) z_)
  exact w_fin _

set_option maxRecDepth 100000 in
set_option maxHeartbeats 4000000 in
theorem w_c_speed (xs : Nat → Int32) : EvQ mi_L_law 1109 [some (.ref 0), some (.ref 1), some (.ref 63), some (.int 0)] [] (G0 8 false) (hf xs) 0 0 QL := by
  refine ev_aload_n rfl rfl rfl ?_
  refine ev_aload_n rfl rfl rfl ?_
  refine ev_iload_n rfl rfl rfl ?_
  refine ev_iconst (v := 1) rfl rfl (by decide) ?_
  refine ev_iadd rfl rfl ?_
  refine ev_iald (j := 1) rfl rfl rfl (by unfold vp_in; decide) (by decide) ?_
  refine ev_V1F rfl rfl lk_L_131 vt_X9_speed rfl rfl rfl rfl rfl ((x_speed 8 false (hf xs) _).f (Fr.ite (fun _ => Fr.refl _) (fun _ => (Fr.refl _).set (by decide) (by decide)))) (fun h1 f1 => ?_)
  refine ev_aload_n rfl rfl rfl ?_
  refine ev_aload_n rfl rfl rfl ?_
  refine ev_iload_n rfl rfl rfl ?_
  refine ev_iconst (v := 1) rfl rfl (by decide) ?_
  refine ev_iadd rfl rfl ?_
  refine ev_iald (j := 1) rfl rfl rfl (by unfold vp_in; decide) (by decide) ?_
  try simp only [f1 0 _ (Or.inl rfl)]
  refine ev_V1X rfl rfl lk_L_134 vt_X10_speed rfl rfl rfl rfl rfl (m_speed 8 false h1 _) (fun h2 => ?_)
  refine ev_icmp_eq rfl rfl (fun c_1127 => ?_) (fun z_ => absurd (by simp only [f1 63 _ (Or.inr (Nat.le_refl 63))]; rfl) z_)
  exact w_fin _

set_option maxRecDepth 100000 in
set_option maxHeartbeats 4000000 in
theorem w_c_far (xs : Nat → Int32) : EvQ mi_L_law 1132 [some (.ref 0), some (.ref 1), some (.ref 63), some (.int 0)] [] (G0 8 false) (hf xs) 0 0 QL := by
  refine ev_aload_n rfl rfl rfl ?_
  refine ev_aload_n rfl rfl rfl ?_
  refine ev_iload_n rfl rfl rfl ?_
  refine ev_iconst (v := 1) rfl rfl (by decide) ?_
  refine ev_iadd rfl rfl ?_
  refine ev_iald (j := 1) rfl rfl rfl (by unfold vp_in; decide) (by decide) ?_
  refine ev_aload_n rfl rfl rfl ?_
  refine ev_iload_n rfl rfl rfl ?_
  refine ev_iconst (v := 2) rfl rfl (by decide) ?_
  refine ev_iadd rfl rfl ?_
  refine ev_iald (j := 2) rfl rfl rfl (by unfold vp_in; decide) (by decide) ?_
  refine ev_V2F rfl rfl lk_L_135 vt_X9_far rfl rfl rfl rfl rfl ((x_far 8 false (hf xs) 0 (by decide) rfl _ _).f ((Fr.refl _))) (fun h1 f1 => ?_)
  refine ev_aload_n rfl rfl rfl ?_
  refine ev_aload_n rfl rfl rfl ?_
  refine ev_iload_n rfl rfl rfl ?_
  refine ev_iconst (v := 1) rfl rfl (by decide) ?_
  refine ev_iadd rfl rfl ?_
  refine ev_iald (j := 1) rfl rfl rfl (by unfold vp_in; decide) (by decide) ?_
  try simp only [f1 0 _ (Or.inl rfl)]
  refine ev_aload_n rfl rfl rfl ?_
  refine ev_iload_n rfl rfl rfl ?_
  refine ev_iconst (v := 2) rfl rfl (by decide) ?_
  refine ev_iadd rfl rfl ?_
  refine ev_iald (j := 2) rfl rfl rfl (by unfold vp_in; decide) (by decide) ?_
  try simp only [f1 0 _ (Or.inl rfl)]
  refine ev_V2X rfl rfl lk_L_138 vt_X10_far rfl rfl rfl rfl rfl (m_far 8 false h1 ((f1 63 48 (Or.inr (by decide))).trans rfl) _ _) (fun h2 => ?_)
  refine ev_icmp_eq rfl rfl (fun c_1160 => ?_) (fun z_ => absurd (by rw [r_way0 (hf xs)]) z_)
  exact w_fin _

set_option maxRecDepth 100000 in
set_option maxHeartbeats 4000000 in
theorem w_c_heard (xs : Nat → Int32) : EvQ mi_L_law 1165 [some (.ref 0), some (.ref 1), some (.ref 63), some (.int 0)] [] (G0 8 false) (hf xs) 0 0 QL := by
  refine ev_aload_n rfl rfl rfl ?_
  refine ev_aload_n rfl rfl rfl ?_
  refine ev_iload_n rfl rfl rfl ?_
  refine ev_iconst (v := 1) rfl rfl (by decide) ?_
  refine ev_iadd rfl rfl ?_
  refine ev_iald (j := 1) rfl rfl rfl (by unfold vp_in; decide) (by decide) ?_
  refine ev_aload_n rfl rfl rfl ?_
  refine ev_iload_n rfl rfl rfl ?_
  refine ev_iconst (v := 2) rfl rfl (by decide) ?_
  refine ev_iadd rfl rfl ?_
  refine ev_iald (j := 2) rfl rfl rfl (by unfold vp_in; decide) (by decide) ?_
  refine ev_aload_n rfl rfl rfl ?_
  refine ev_iload_n rfl rfl rfl ?_
  refine ev_iconst (v := 3) rfl rfl (by decide) ?_
  refine ev_iadd rfl rfl ?_
  refine ev_iald (j := 3) rfl rfl rfl (by unfold vp_in; decide) (by decide) ?_
  refine ev_V3F rfl rfl lk_L_139 vt_X9_heard rfl rfl rfl rfl rfl ((x_heard 8 false (hf xs) 0 (by decide) rfl 0 (by decide) rfl _ _ _).f ((Fr.refl _))) (fun h1 f1 => ?_)
  refine ev_aload_n rfl rfl rfl ?_
  refine ev_aload_n rfl rfl rfl ?_
  refine ev_iload_n rfl rfl rfl ?_
  refine ev_iconst (v := 1) rfl rfl (by decide) ?_
  refine ev_iadd rfl rfl ?_
  refine ev_iald (j := 1) rfl rfl rfl (by unfold vp_in; decide) (by decide) ?_
  try simp only [f1 0 _ (Or.inl rfl)]
  refine ev_aload_n rfl rfl rfl ?_
  refine ev_iload_n rfl rfl rfl ?_
  refine ev_iconst (v := 2) rfl rfl (by decide) ?_
  refine ev_iadd rfl rfl ?_
  refine ev_iald (j := 2) rfl rfl rfl (by unfold vp_in; decide) (by decide) ?_
  try simp only [f1 0 _ (Or.inl rfl)]
  refine ev_aload_n rfl rfl rfl ?_
  refine ev_iload_n rfl rfl rfl ?_
  refine ev_iconst (v := 3) rfl rfl (by decide) ?_
  refine ev_iadd rfl rfl ?_
  refine ev_iald (j := 3) rfl rfl rfl (by unfold vp_in; decide) (by decide) ?_
  try simp only [f1 0 _ (Or.inl rfl)]
  refine ev_V3X rfl rfl lk_L_143 vt_X10_heard rfl rfl rfl rfl rfl (m_heard 8 false h1 ((f1 63 45 (Or.inr (by decide))).trans rfl) _ _ _) (fun h2 => ?_)
  refine ev_icmp_eq rfl rfl (fun c_1203 => ?_) (fun z_ => absurd ((by unfold r_heard; rw [if_pos (show z_has _ (hf xs 50 2) = 0 from z_has0 _)])) z_)
  exact w_fin _

set_option maxRecDepth 100000 in
set_option maxHeartbeats 4000000 in
theorem w_c_step (xs : Nat → Int32) : EvQ mi_L_law 1208 [some (.ref 0), some (.ref 1), some (.ref 63), some (.int 0)] [] (G0 8 false) (hf xs) 0 0 QL := by
  refine ev_aload_n rfl rfl rfl ?_
  refine ev_aload_n rfl rfl rfl ?_
  refine ev_iload_n rfl rfl rfl ?_
  refine ev_iconst (v := 1) rfl rfl (by decide) ?_
  refine ev_iadd rfl rfl ?_
  refine ev_iald (j := 1) rfl rfl rfl (by unfold vp_in; decide) (by decide) ?_
  refine ev_aload_n rfl rfl rfl ?_
  refine ev_iload_n rfl rfl rfl ?_
  refine ev_iconst (v := 2) rfl rfl (by decide) ?_
  refine ev_iadd rfl rfl ?_
  refine ev_iald (j := 2) rfl rfl rfl (by unfold vp_in; decide) (by decide) ?_
  refine ev_aload_n rfl rfl rfl ?_
  refine ev_iload_n rfl rfl rfl ?_
  refine ev_iconst (v := 3) rfl rfl (by decide) ?_
  refine ev_iadd rfl rfl ?_
  refine ev_iald (j := 3) rfl rfl rfl (by unfold vp_in; decide) (by decide) ?_
  refine ev_V3F rfl rfl lk_L_144 vt_X9_step rfl rfl rfl rfl rfl ((f_step 8 false (hf xs) rfl _ _ _).f ((Fr.refl _))) (fun h1 f1 => ?_)
  refine ev_aload_n rfl rfl rfl ?_
  refine ev_aload_n rfl rfl rfl ?_
  refine ev_iload_n rfl rfl rfl ?_
  refine ev_iconst (v := 1) rfl rfl (by decide) ?_
  refine ev_iadd rfl rfl ?_
  refine ev_iald (j := 1) rfl rfl rfl (by unfold vp_in; decide) (by decide) ?_
  try simp only [f1 0 _ (Or.inl rfl)]
  refine ev_aload_n rfl rfl rfl ?_
  refine ev_iload_n rfl rfl rfl ?_
  refine ev_iconst (v := 2) rfl rfl (by decide) ?_
  refine ev_iadd rfl rfl ?_
  refine ev_iald (j := 2) rfl rfl rfl (by unfold vp_in; decide) (by decide) ?_
  try simp only [f1 0 _ (Or.inl rfl)]
  refine ev_aload_n rfl rfl rfl ?_
  refine ev_iload_n rfl rfl rfl ?_
  refine ev_iconst (v := 3) rfl rfl (by decide) ?_
  refine ev_iadd rfl rfl ?_
  refine ev_iald (j := 3) rfl rfl rfl (by unfold vp_in; decide) (by decide) ?_
  try simp only [f1 0 _ (Or.inl rfl)]
  refine ev_V3X rfl rfl lk_L_147 vt_X10_step rfl rfl rfl rfl rfl (m_step 8 false h1 ((f1 63 45 (Or.inr (by decide))).trans rfl) _ _ _) (fun h2 => ?_)
  refine ev_icmp_eq rfl rfl (fun c_1246 => ?_) (fun z_ => absurd (rfl) z_)
  exact w_fin _

set_option maxRecDepth 100000 in
set_option maxHeartbeats 4000000 in
theorem w_c_undo (xs : Nat → Int32) : EvQ mi_L_law 1251 [some (.ref 0), some (.ref 1), some (.ref 63), some (.int 0)] [] (G0 8 false) (hf xs) 0 0 QL := by
  refine ev_aload_n rfl rfl rfl ?_
  refine ev_V0F rfl rfl lk_L_148 vt_X9_undo rfl rfl rfl rfl rfl ((x_undo0 8 false (hf xs) rfl).f ((Fr.refl _))) (fun h1 f1 => ?_)
  refine ev_aload_n rfl rfl rfl ?_
  refine ev_V0X rfl rfl lk_L_151 vt_X10_undo rfl rfl rfl rfl rfl (m_undo 8 false h1 ((f1 63 13 (Or.inr (by decide))).trans rfl)) (fun h2 => ?_)
  refine ev_icmp_eq rfl rfl (fun c_1259 => ?_) (fun z_ => absurd (rfl) z_)
  exact w_fin _

set_option maxRecDepth 100000 in
set_option maxHeartbeats 4000000 in
theorem w_c_sheet (xs : Nat → Int32) : EvQ mi_L_law 1264 [some (.ref 0), some (.ref 1), some (.ref 63), some (.int 0)] [] (G0 8 false) (hf xs) 0 0 QL := by
  refine ev_aload_n rfl rfl rfl ?_
  refine ev_aload_n rfl rfl rfl ?_
  refine ev_iload_n rfl rfl rfl ?_
  refine ev_iconst (v := 1) rfl rfl (by decide) ?_
  refine ev_iadd rfl rfl ?_
  refine ev_iald (j := 1) rfl rfl rfl (by unfold vp_in; decide) (by decide) ?_
  refine ev_aload_n rfl rfl rfl ?_
  refine ev_iload_n rfl rfl rfl ?_
  refine ev_iconst (v := 2) rfl rfl (by decide) ?_
  refine ev_iadd rfl rfl ?_
  refine ev_iald (j := 2) rfl rfl rfl (by unfold vp_in; decide) (by decide) ?_
  refine ev_aload_n rfl rfl rfl ?_
  refine ev_iload_n rfl rfl rfl ?_
  refine ev_iconst (v := 3) rfl rfl (by decide) ?_
  refine ev_iadd rfl rfl ?_
  refine ev_iald (j := 3) rfl rfl rfl (by unfold vp_in; decide) (by decide) ?_
  refine ev_V3F rfl rfl lk_L_152 vt_X9_sheet rfl rfl rfl rfl rfl ((x_sheet 8 false (hf xs) _ _ _).f (fr_sheet _ _ _ _)) (fun h1 f1 => ?_)
  refine ev_aload_n rfl rfl rfl ?_
  refine ev_aload_n rfl rfl rfl ?_
  refine ev_iload_n rfl rfl rfl ?_
  refine ev_iconst (v := 1) rfl rfl (by decide) ?_
  refine ev_iadd rfl rfl ?_
  refine ev_iald (j := 1) rfl rfl rfl (by unfold vp_in; decide) (by decide) ?_
  try simp only [f1 0 _ (Or.inl rfl)]
  refine ev_aload_n rfl rfl rfl ?_
  refine ev_iload_n rfl rfl rfl ?_
  refine ev_iconst (v := 2) rfl rfl (by decide) ?_
  refine ev_iadd rfl rfl ?_
  refine ev_iald (j := 2) rfl rfl rfl (by unfold vp_in; decide) (by decide) ?_
  try simp only [f1 0 _ (Or.inl rfl)]
  refine ev_aload_n rfl rfl rfl ?_
  refine ev_iload_n rfl rfl rfl ?_
  refine ev_iconst (v := 3) rfl rfl (by decide) ?_
  refine ev_iadd rfl rfl ?_
  refine ev_iald (j := 3) rfl rfl rfl (by unfold vp_in; decide) (by decide) ?_
  try simp only [f1 0 _ (Or.inl rfl)]
  refine ev_V3X rfl rfl lk_L_155 vt_X10_sheet rfl rfl rfl rfl rfl (m_sheet 8 false h1 _ _ _) (fun h2 => ?_)
  refine ev_icmp_eq rfl rfl (fun c_1302 => ?_) (fun z_ => absurd ((r_sheet_f _ _ _).symm) z_)
  exact w_fin _

set_option maxRecDepth 100000 in
set_option maxHeartbeats 4000000 in
theorem w_c_lay (xs : Nat → Int32) : EvQ mi_L_law 1307 [some (.ref 0), some (.ref 1), some (.ref 63), some (.int 0)] [] (G0 8 false) (hf xs) 0 0 QL := by
  refine ev_aload_n rfl rfl rfl ?_
  refine ev_aload_n rfl rfl rfl ?_
  refine ev_iload_n rfl rfl rfl ?_
  refine ev_iconst (v := 1) rfl rfl (by decide) ?_
  refine ev_iadd rfl rfl ?_
  refine ev_iald (j := 1) rfl rfl rfl (by unfold vp_in; decide) (by decide) ?_
  refine ev_aload_n rfl rfl rfl ?_
  refine ev_iload_n rfl rfl rfl ?_
  refine ev_iconst (v := 2) rfl rfl (by decide) ?_
  refine ev_iadd rfl rfl ?_
  refine ev_iald (j := 2) rfl rfl rfl (by unfold vp_in; decide) (by decide) ?_
  refine ev_aload_n rfl rfl rfl ?_
  refine ev_iload_n rfl rfl rfl ?_
  refine ev_iconst (v := 3) rfl rfl (by decide) ?_
  refine ev_iadd rfl rfl ?_
  refine ev_iald (j := 3) rfl rfl rfl (by unfold vp_in; decide) (by decide) ?_
  refine ev_V3F rfl rfl lk_L_156 vt_X9_lay rfl rfl rfl rfl rfl ((x_lay 8 false (hf xs) (hf_62' xs) _ _ _).f (fr_lay _ _ _ _)) (fun h1 f1 => ?_)
  refine ev_aload_n rfl rfl rfl ?_
  refine ev_aload_n rfl rfl rfl ?_
  refine ev_iload_n rfl rfl rfl ?_
  refine ev_iconst (v := 1) rfl rfl (by decide) ?_
  refine ev_iadd rfl rfl ?_
  refine ev_iald (j := 1) rfl rfl rfl (by unfold vp_in; decide) (by decide) ?_
  try simp only [f1 0 _ (Or.inl rfl)]
  refine ev_aload_n rfl rfl rfl ?_
  refine ev_iload_n rfl rfl rfl ?_
  refine ev_iconst (v := 2) rfl rfl (by decide) ?_
  refine ev_iadd rfl rfl ?_
  refine ev_iald (j := 2) rfl rfl rfl (by unfold vp_in; decide) (by decide) ?_
  try simp only [f1 0 _ (Or.inl rfl)]
  refine ev_aload_n rfl rfl rfl ?_
  refine ev_iload_n rfl rfl rfl ?_
  refine ev_iconst (v := 3) rfl rfl (by decide) ?_
  refine ev_iadd rfl rfl ?_
  refine ev_iald (j := 3) rfl rfl rfl (by unfold vp_in; decide) (by decide) ?_
  try simp only [f1 0 _ (Or.inl rfl)]
  refine ev_V3X rfl rfl lk_L_159 vt_X10_lay rfl rfl rfl rfl rfl (m_lay 8 false h1 (fun j hj => (f1 92 j (Or.inr (by decide))).trans (hf_92 xs j hj)) _ _ _) (fun h2 => ?_)
  refine ev_icmp_eq rfl rfl (fun c_1345 => ?_) (fun z_ => absurd ((r_lay_f xs _ _).symm) z_)
  exact w_fin _

set_option maxRecDepth 100000 in
set_option maxHeartbeats 4000000 in
theorem w_c_scan (xs : Nat → Int32) : EvQ mi_L_law 1350 [some (.ref 0), some (.ref 1), some (.ref 63), some (.int 0)] [] (G0 8 false) (hf xs) 0 0 QL := by
  refine ev_aload_n rfl rfl rfl ?_
  refine ev_aload_n rfl rfl rfl ?_
  refine ev_iload_n rfl rfl rfl ?_
  refine ev_iconst (v := 1) rfl rfl (by decide) ?_
  refine ev_iadd rfl rfl ?_
  refine ev_iald (j := 1) rfl rfl rfl (by unfold vp_in; decide) (by decide) ?_
  refine ev_aload_n rfl rfl rfl ?_
  refine ev_iload_n rfl rfl rfl ?_
  refine ev_iconst (v := 2) rfl rfl (by decide) ?_
  refine ev_iadd rfl rfl ?_
  refine ev_iald (j := 2) rfl rfl rfl (by unfold vp_in; decide) (by decide) ?_
  refine ev_aload_n rfl rfl rfl ?_
  refine ev_iload_n rfl rfl rfl ?_
  refine ev_iconst (v := 3) rfl rfl (by decide) ?_
  refine ev_iadd rfl rfl ?_
  refine ev_iald (j := 3) rfl rfl rfl (by unfold vp_in; decide) (by decide) ?_
  refine ev_aload_n rfl rfl rfl ?_
  refine ev_iload_n rfl rfl rfl ?_
  refine ev_iconst (v := 4) rfl rfl (by decide) ?_
  refine ev_iadd rfl rfl ?_
  refine ev_iald (j := 4) rfl rfl rfl (by unfold vp_in; decide) (by decide) ?_
  refine ev_V4F rfl rfl lk_L_160 vt_X9_scan rfl rfl rfl rfl rfl ((f_scan 8 false (hf xs) (hf_62 xs) _ _ _ _).f ((Fr.refl _))) (fun h1 f1 => ?_)
  refine ev_aload_n rfl rfl rfl ?_
  refine ev_aload_n rfl rfl rfl ?_
  refine ev_iload_n rfl rfl rfl ?_
  refine ev_iconst (v := 1) rfl rfl (by decide) ?_
  refine ev_iadd rfl rfl ?_
  refine ev_iald (j := 1) rfl rfl rfl (by unfold vp_in; decide) (by decide) ?_
  try simp only [f1 0 _ (Or.inl rfl)]
  refine ev_aload_n rfl rfl rfl ?_
  refine ev_iload_n rfl rfl rfl ?_
  refine ev_iconst (v := 2) rfl rfl (by decide) ?_
  refine ev_iadd rfl rfl ?_
  refine ev_iald (j := 2) rfl rfl rfl (by unfold vp_in; decide) (by decide) ?_
  try simp only [f1 0 _ (Or.inl rfl)]
  refine ev_aload_n rfl rfl rfl ?_
  refine ev_iload_n rfl rfl rfl ?_
  refine ev_iconst (v := 3) rfl rfl (by decide) ?_
  refine ev_iadd rfl rfl ?_
  refine ev_iald (j := 3) rfl rfl rfl (by unfold vp_in; decide) (by decide) ?_
  try simp only [f1 0 _ (Or.inl rfl)]
  refine ev_aload_n rfl rfl rfl ?_
  refine ev_iload_n rfl rfl rfl ?_
  refine ev_iconst (v := 4) rfl rfl (by decide) ?_
  refine ev_iadd rfl rfl ?_
  refine ev_iald (j := 4) rfl rfl rfl (by unfold vp_in; decide) (by decide) ?_
  try simp only [f1 0 _ (Or.inl rfl)]
  refine ev_V4X rfl rfl lk_L_164 vt_X10_scan rfl rfl rfl rfl rfl (m_scan 8 false h1 (fun j hj => (f1 92 j (Or.inr (by decide))).trans (hf_92 xs j hj)) _ _ _ _) (fun h2 => ?_)
  refine ev_icmp_eq rfl rfl (fun c_1398 => ?_) (fun z_ => absurd ((r_scan_f _ _ _).symm) z_)
  exact w_fin _

set_option maxRecDepth 100000 in
set_option maxHeartbeats 4000000 in
theorem w_c_count (xs : Nat → Int32) : EvQ mi_L_law 1403 [some (.ref 0), some (.ref 1), some (.ref 63), some (.int 0)] [] (G0 8 false) (hf xs) 0 0 QL := by
  refine ev_aload_n rfl rfl rfl ?_
  refine ev_aload_n rfl rfl rfl ?_
  refine ev_iload_n rfl rfl rfl ?_
  refine ev_iconst (v := 1) rfl rfl (by decide) ?_
  refine ev_iadd rfl rfl ?_
  refine ev_iald (j := 1) rfl rfl rfl (by unfold vp_in; decide) (by decide) ?_
  refine ev_V1F rfl rfl lk_L_165 vt_X9_count rfl rfl rfl rfl rfl ((x_count 8 false (hf xs) 0 (by decide) rfl _).f ((Fr.refl _))) (fun h1 f1 => ?_)
  refine ev_aload_n rfl rfl rfl ?_
  refine ev_aload_n rfl rfl rfl ?_
  refine ev_iload_n rfl rfl rfl ?_
  refine ev_iconst (v := 1) rfl rfl (by decide) ?_
  refine ev_iadd rfl rfl ?_
  refine ev_iald (j := 1) rfl rfl rfl (by unfold vp_in; decide) (by decide) ?_
  try simp only [f1 0 _ (Or.inl rfl)]
  refine ev_V1X rfl rfl lk_L_168 vt_X10_count rfl rfl rfl rfl rfl (m_count 8 false h1 ((f1 63 5 (Or.inr (by decide))).trans rfl) (fun j hj => (f1 92 j (Or.inr (by decide))).trans (hf_92 xs j hj)) _) (fun h2 => ?_)
  refine ev_icmp_eq rfl rfl (fun c_1421 => ?_) (fun z_ => absurd (by rw [r_count0 rfl rfl]; simp only [f1 63 _ (Or.inr (Nat.le_refl 63))]; rfl) z_)
  exact w_fin _
