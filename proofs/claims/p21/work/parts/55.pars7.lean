/-- a byte of the class's tape and the model's number for it -/
def SB (c t : Int32) : Prop := c = t ∨ (c < 0 ∧ 122 < t)
theorem SB.eq {c t v : Int32} (h : SB c t) (h0 : 0 ≤ v.toInt) (h1 : v.toInt ≤ 122) : c = v ↔ t = v := by
  rcases h with h | ⟨h, h2⟩
  · rw [h]
  · have z := w_lt h
    have z2 := w_lt h2
    have e0 : (0 : Int32).toInt = 0 := by decide
    have e1 : (122 : Int32).toInt = 122 := by decide
    exact ⟨fun e => by rw [e] at z; omega, fun e => by rw [e] at z2; omega⟩
theorem SB.rng {c t a u : Int32} (h : SB c t) (h0 : 0 ≤ a.toInt) (h1 : u.toInt ≤ 122) : (¬ c < a ∧ ¬ u < c ↔ ¬ t < a ∧ ¬ u < t) ∧ (¬ c < a ∧ ¬ u < c → c = t) := by
  rcases h with h | ⟨h, h2⟩
  · rw [h]; exact ⟨Iff.rfl, fun _ => rfl⟩
  · have z := w_lt h
    have z2 := w_lt h2
    have e0 : (0 : Int32).toInt = 0 := by decide
    have e1 : (122 : Int32).toInt = 122 := by decide
    have n1 : c < a := Int32.lt_iff_toInt_lt.mpr (by omega)
    have n2 : u < t := Int32.lt_iff_toInt_lt.mpr (by omega)
    exact ⟨⟨fun q => absurd n1 q.1, fun q => absurd n2 q.2⟩, fun q => absurd n1 q.1⟩
theorem let_cg {T T' : Nat → Int32} {n : Nat} (hS : ∀ j, j < n → SB (T j) (T' j)) (p : Nat) : (p_let T n p ↔ p_let T' n p) ∧ (p_let T n p → T p = T' p) := by
  by_cases q : p < n
  · have z := (hS p q).rng (a := 97) (u := 122) (by decide) (by decide)
    exact ⟨⟨fun y => ⟨q, z.1.mp y.2⟩, fun y => ⟨q, z.1.mpr y.2⟩⟩, fun y => z.2 y.2⟩
  · exact ⟨⟨fun y => absurd y.1 q, fun y => absurd y.1 q⟩, fun y => absurd y.1 q⟩
theorem fig_cg {T T' : Nat → Int32} {n : Nat} (hS : ∀ j, j < n → SB (T j) (T' j)) (p : Nat) : (p_fig T n p ↔ p_fig T' n p) ∧ (p_fig T n p → T p = T' p) := by
  by_cases q : p < n
  · have z := (hS p q).rng (a := 48) (u := 57) (by decide) (by decide)
    exact ⟨⟨fun y => ⟨q, z.1.mp y.2⟩, fun y => ⟨q, z.1.mpr y.2⟩⟩, fun y => z.2 y.2⟩
  · exact ⟨⟨fun y => absurd y.1 q, fun y => absurd y.1 q⟩, fun y => absurd y.1 q⟩
theorem sp_cg {T T' : Nat → Int32} {n : Nat} (hS : ∀ j, j < n → SB (T j) (T' j)) : ∀ k p, p_sp T n k p = p_sp T' n k p
  | 0, _ => rfl
  | k + 1, p => by
    unfold p_sp
    by_cases q : p < n
    · have z := (hS p q).eq (v := 32) (by decide) (by decide)
      by_cases y : T p = 32
      · rw [if_pos ⟨q, y⟩, if_pos ⟨q, z.mp y⟩, sp_cg hS k]
      · rw [if_neg (fun w => y w.2), if_neg (fun w => y (z.mpr w.2))]
    · rw [if_neg (fun w => q w.1), if_neg (fun w => q w.1)]
theorem ch_cg {T T' : Nat → Int32} {n : Nat} (hS : ∀ j, j < n → SB (T j) (T' j)) : ∀ k p v c, p_ch T n k p v c = p_ch T' n k p v c
  | 0, _, _, _ => rfl
  | k + 1, p, v, c => by
    have z := let_cg hS p
    unfold p_ch
    by_cases q : p_let T n p
    · rw [if_pos q, if_pos (z.1.mp q), z.2 q, ch_cg hS k]
    · rw [if_neg q, if_neg (fun y => q (z.1.mpr y))]
theorem nm_cg {T T' : Nat → Int32} {n : Nat} (hS : ∀ j, j < n → SB (T j) (T' j)) {p : Nat} (hp : p_fig T n p) : p_nm T n p = p_nm T' n p := by
  have z0 := fig_cg hS p
  have z1 := fig_cg hS (p + 1)
  have z2 := fig_cg hS (p + 2)
  unfold p_nm
  rw [z0.2 hp]
  by_cases q1 : p_fig T n (p + 1)
  · rw [if_pos q1, if_pos (z1.1.mp q1), z1.2 q1]
    by_cases q2 : p_fig T n (p + 2)
    · rw [if_pos q2, if_pos (z2.1.mp q2)]
    · rw [if_neg q2, if_neg (fun y => q2 (z2.1.mpr y))]
  · rw [if_neg q1, if_neg (fun y => q1 (z1.1.mpr y))]
theorem at_cg {T T' : Nat → Int32} {n : Nat} (hS : ∀ j, j < n → SB (T j) (T' j)) (q : Nat) : p_at T n q = p_at T' n q := by
  have z := let_cg hS q
  have zf := fig_cg hS q
  unfold p_at
  by_cases q0 : n ≤ q
  · rw [if_pos q0, if_pos q0]
  · rw [if_neg q0, if_neg q0]
    by_cases q1 : p_let T n q
    · rw [if_pos q1, if_pos (z.1.mp q1), ch_cg hS]
    · rw [if_neg q1, if_neg (fun y => q1 (z.1.mpr y))]
      by_cases q2 : p_fig T n q
      · rw [if_pos q2, if_pos (zf.1.mp q2), nm_cg hS q2]
      · rw [if_neg q2, if_neg (fun y => q2 (zf.1.mpr y))]
        have s := hS q (by omega)
        have s1 := s.eq (v := 46) (by decide) (by decide)
        have s2 := s.eq (v := 40) (by decide) (by decide)
        have s3 := s.eq (v := 41) (by decide) (by decide)
        by_cases y1 : T q = 46
        · rw [if_pos y1, if_pos (s1.mp y1)]
        · rw [if_neg y1, if_neg (fun w => y1 (s1.mpr w))]
          by_cases y2 : T q = 40
          · rw [if_pos y2, if_pos (s2.mp y2)]
          · rw [if_neg y2, if_neg (fun w => y2 (s2.mpr w))]
            by_cases y3 : T q = 41
            · rw [if_pos y3, if_pos (s3.mp y3)]
            · rw [if_neg y3, if_neg (fun w => y3 (s3.mpr w))]
theorem tok_cg {T T' : Nat → Int32} {n : Nat} (hS : ∀ j, j < n → SB (T j) (T' j)) (p : Nat) : p_tok T n p = p_tok T' n p := by
  unfold p_tok
  rw [sp_cg hS, at_cg hS]
theorem run_cg {T T' : Nat → Int32} {n : Nat} (hS : ∀ j, j < n → SB (T j) (T' j)) : ∀ k s, p_run T n k s = p_run T' n k s
  | 0, _ => by unfold p_run; rfl
  | k + 1, (p, w, v, m, r, d, bg, rd) => by
    cases es : p_stp (p_tok T n p) w v m r d bg rd with
    | none => rw [p_run_n es, p_run_n (by rw [← tok_cg hS]; exact es)]
    | some y =>
      cases y with
      | inl y => rw [p_run_l es, p_run_l (by rw [← tok_cg hS]; exact es)]
      | inr s => rw [p_run_r es, p_run_r (k := k) (by rw [← tok_cg hS]; exact es), run_cg hS k s]
theorem byte_low (y : Int64) : y.toInt32.toInt8 = (y &&& 255).toInt32.toInt8 := by
  refine Int8.toBitVec_inj.mp ?_
  rw [Int32.toBitVec_toInt8, Int32.toBitVec_toInt8, Int64.toBitVec_toInt32, Int64.toBitVec_toInt32, Int64.toBitVec_and]
  rw [BitVec.signExtend_eq_setWidth_of_le _ (by decide), BitVec.signExtend_eq_setWidth_of_le _ (by decide), BitVec.signExtend_eq_setWidth_of_le _ (by decide), BitVec.signExtend_eq_setWidth_of_le _ (by decide)]
  refine BitVec.eq_of_getLsbD_eq (fun i hi => ?_)
  rw [BitVec.getLsbD_setWidth, BitVec.getLsbD_setWidth, BitVec.getLsbD_setWidth, BitVec.getLsbD_setWidth, BitVec.getLsbD_and]
  have e : (255 : Int64).toBitVec.getLsbD i = true := by
    rcases (show i = 0 ∨ i = 1 ∨ i = 2 ∨ i = 3 ∨ i = 4 ∨ i = 5 ∨ i = 6 ∨ i = 7 by omega) with rfl | rfl | rfl | rfl | rfl | rfl | rfl | rfl <;> decide
  rw [e, Bool.and_true]
theorem byte_sb (y : Int64) : SB y.toInt32.toInt8.toInt32.toInt8.toInt32 (y &&& 255).toInt32 := by
  rw [byte_low]
  have b := B.l255 y
  obtain ⟨u, eu⟩ : ∃ u, (y &&& 255).toInt32 = u := ⟨_, rfl⟩
  rw [eu] at b ⊢
  have b1 := b.1
  have b2 := b.2
  have e0 : (0 : Int32).toInt = 0 := by decide
  have e1 : (122 : Int32).toInt = 122 := by decide
  have e : u.toInt8.toInt32.toInt8.toInt32.toInt = u.toInt.bmod (2 ^ 8) := by
    rw [Int8.toInt_toInt32, Int32.toInt_toInt8, Int8.toInt_toInt32, Int32.toInt_toInt8, Int.bmod_bmod]
  rw [Int.bmod_def] at e
  by_cases q : u.toInt < 128
  · refine Or.inl (Int32.toInt_inj.mp ?_)
    split at e <;> omega
  · refine Or.inr ⟨Int32.lt_iff_toInt_lt.mpr ?_, Int32.lt_iff_toInt_lt.mpr (by omega)⟩
    split at e <;> omega

theorem jw_tp {h : Hp} (hB : Bx h) (m : Nat) (x : Int64) : ∀ i, JW [(23, 1), (24, 999)] h (k_tp h m x i)
  | 0 => JW.refl hB
  | i + 1 => (jw_tp hB m x i).set rfl (B.any _)
theorem k_tp_out {h : Hp} {m : Nat} {x : Int64} {j : Nat} : ∀ i, j < m ∨ m + i ≤ j → k_tp h m x i 24 j = h 24 j
  | 0, _ => rfl
  | i + 1, q => by
    unfold k_tp
    rw [ev_rd3 (by omega)]
    exact k_tp_out i (by omega)
theorem k_tp_in {h : Hp} {m : Nat} {x : Int64} {j : Nat} : ∀ i, j < i → k_tp h m x i 24 (m + j) = z_bt x j
  | 0, q => absurd q (by omega)
  | i + 1, q => by
    unfold k_tp
    by_cases e : j = i
    · rw [e]; exact ev_rd1 _ _ _ _
    · rw [ev_rd3 (by omega)]
      exact k_tp_in i (by omega)
theorem w_feedC (L : Nat) (b : Bool) (h : Hp) (hB : Bx h) (m : Nat) (hm0 : m ≤ 160) (hm : h 23 1 = nI m) (x : Int64) : EvI mi_X9_feed [.ref 1, .long x] (G0 L b) h (fun r z => (m + 8 ≤ 160 → r = nI (m + 8) ∧ z 23 1 = nI (m + 8) ∧ (∀ j, j < m → z 24 j = h 24 j) ∧ ∀ i, i < 8 → z 24 (m + i) = z_bt x i) ∧ (¬ m + 8 ≤ 160 → r = -3 ∧ z = h)) [(23, 1), (24, 999)] := by
  have e8 : h 23 1 + 8 = nI (m + 8) := by rw [hm]; exact nI_add m 8
  refine EvM.mono (x_feed L b h m hm0 hm x) (fun v G' h' q => ?_)
  obtain ⟨rfl, rfl, rfl⟩ := q
  by_cases c : m + 8 ≤ 160
  · have c2 : h 23 1 + 8 ≤ 160 := by rw [e8]; exact (nI_le2 (b := 160) (by omega) (by decide)).mpr c
    unfold k_app
    rw [if_pos c2, if_pos c2]
    refine ⟨⟨_, rfl, fun _ => ⟨e8, ?_, fun j hj => ?_, fun i hi => ?_⟩, fun q => absurd c q⟩, rfl, (jw_tp hB m x 8).set rfl (by rw [e8]; exact nI_160 c)⟩
    · rw [ev_rd1, e8]
    · rw [ev_rd2 (by decide)]; exact k_tp_out 8 (by omega)
    · rw [ev_rd2 (by decide)]; exact k_tp_in 8 hi
  · have c2 : ¬ h 23 1 + 8 ≤ 160 := by rw [e8]; exact fun z => c ((nI_le2 (b := 160) (by omega) (by decide)).mp z)
    unfold k_app
    rw [if_neg c2, if_neg c2]
    exact ⟨⟨_, rfl, fun q => absurd q c, fun _ => ⟨rfl, rfl⟩⟩, rfl, JW.refl hB⟩

def z_mb (x : Int64) (s : Int32) : Int32 := (x >>> (s.toInt64 &&& 63) &&& 255).toInt32

set_option maxRecDepth 100000 in
set_option maxHeartbeats 4000000 in
theorem c_mfeed (L : Nat) (b : Bool) (h : Hp) (m : Nat) (hm0 : m ≤ 160) (e16 : h 63 16 = nI m) (hm8 : m + 8 ≤ 160) (x : Int64) : EvD mi_X10_feed [.ref 63, .long x] (G0 L b) h (nI (m + 8)) ((ev_set (ev_set (ev_set (ev_set (ev_set (ev_set (ev_set (ev_set (ev_set (ev_set (ev_set (ev_set (ev_set (ev_set (ev_set (ev_set h 72 (m) (z_mb x 56)) 63 16 (nI (m + 1))) 72 (m + 1) (z_mb x (56 + (-8)))) 63 16 (nI (m + 1 + 1))) 72 (m + 1 + 1) (z_mb x ((56 + (-8)) + (-8)))) 63 16 (nI (m + 1 + 1 + 1))) 72 (m + 1 + 1 + 1) (z_mb x (((56 + (-8)) + (-8)) + (-8)))) 63 16 (nI (m + 1 + 1 + 1 + 1))) 72 (m + 1 + 1 + 1 + 1) (z_mb x ((((56 + (-8)) + (-8)) + (-8)) + (-8)))) 63 16 (nI (m + 1 + 1 + 1 + 1 + 1))) 72 (m + 1 + 1 + 1 + 1 + 1) (z_mb x (((((56 + (-8)) + (-8)) + (-8)) + (-8)) + (-8)))) 63 16 (nI (m + 1 + 1 + 1 + 1 + 1 + 1))) 72 (m + 1 + 1 + 1 + 1 + 1 + 1) (z_mb x ((((((56 + (-8)) + (-8)) + (-8)) + (-8)) + (-8)) + (-8)))) 63 16 (nI (m + 1 + 1 + 1 + 1 + 1 + 1 + 1))) 72 (m + 1 + 1 + 1 + 1 + 1 + 1 + 1) (z_mb x (((((((56 + (-8)) + (-8)) + (-8)) + (-8)) + (-8)) + (-8)) + (-8)))) 63 16 (nI (m + 1 + 1 + 1 + 1 + 1 + 1 + 1 + 1)))) := by
  refine EvD.of (lo := [some (.ref 63), some (.long x), none, none]) pf_X10_feed ok_X10_feed rfl rfl ?_
  refine ev_aload_n rfl rfl rfl ?_
  refine ev_getI rfl rfl fl_X10_186 rfl rfl rfl ?_
  try simp (disch := decide) only [ev_rd1, ev_rd2, e16]
  refine ev_bipush (v := 8) rfl rfl (by decide) ?_
  refine ev_iadd rfl rfl ?_
  try rw [show nI m + 8 = nI (m + 8) from nI_add m 8]
  refine ev_sipush (v := 160) rfl rfl (by decide) ?_
  refine ev_icmp_le rfl rfl (fun c_10 => ?_) (fun z_ => absurd ((nI_le2 (a := m + 8) (b := 160) (by omega) (by decide)).mpr hm8) z_)
  refine ev_bipush (v := 56) rfl rfl (by decide) ?_
  refine ev_istore_n rfl rfl rfl rfl ?_
  dsimp only [List.set]
  refine ev_iload_n rfl rfl rfl ?_
  refine ev_if_lt rfl rfl (fun z_ => absurd z_ (by decide)) (fun c_20 => ?_)
  refine ev_aload_n rfl rfl rfl ?_
  refine ev_getR rfl rfl fl_X10_48 rfl rfl rfl rfl ?_
  refine ev_aload_n rfl rfl rfl ?_
  refine ev_getI rfl rfl fl_X10_186 rfl rfl rfl ?_
  try simp (disch := decide) only [ev_rd1, ev_rd2, e16]
  refine ev_lload_n rfl rfl rfl ?_
  refine ev_iload_n rfl rfl rfl ?_
  refine ev_lshr rfl rfl ?_
  refine ev_ldc2 rfl rfl kc_X10_189 ?_
  refine ev_land rfl rfl ?_
  refine ev_l2i rfl rfl ?_
  refine ev_iast rfl rfl rfl rfl (vp_in_nI (by omega) (by decide)) (nI_clamp (by omega)) ?_
  refine ev_aload_n rfl rfl rfl ?_
  refine ev_dup rfl rfl rfl ?_
  refine ev_getI rfl rfl fl_X10_186 rfl rfl rfl ?_
  try simp (disch := decide) only [ev_rd1, ev_rd2, e16]
  refine ev_iconst (v := 1) rfl rfl (by decide) ?_
  refine ev_iadd rfl rfl ?_
  refine ev_putI rfl rfl fl_X10_186 rfl rfl rfl rfl rfl ?_
  simp only [nI_1]
  refine ev_iinc (y := (-8)) rfl rfl rfl (by decide) rfl rfl ?_
  dsimp only [List.set]
  refine ev_goto rfl rfl ?_
  refine ev_iload_n rfl rfl rfl ?_
  refine ev_if_lt rfl rfl (fun z_ => absurd z_ (by decide)) (fun c_20b => ?_)
  refine ev_aload_n rfl rfl rfl ?_
  refine ev_getR rfl rfl fl_X10_48 rfl rfl rfl rfl ?_
  refine ev_aload_n rfl rfl rfl ?_
  refine ev_getI rfl rfl fl_X10_186 rfl rfl rfl ?_
  try simp (disch := decide) only [ev_rd1, ev_rd2, e16]
  refine ev_lload_n rfl rfl rfl ?_
  refine ev_iload_n rfl rfl rfl ?_
  refine ev_lshr rfl rfl ?_
  refine ev_ldc2 rfl rfl kc_X10_189 ?_
  refine ev_land rfl rfl ?_
  refine ev_l2i rfl rfl ?_
  refine ev_iast rfl rfl rfl rfl (vp_in_nI (by omega) (by decide)) (nI_clamp (by omega)) ?_
  refine ev_aload_n rfl rfl rfl ?_
  refine ev_dup rfl rfl rfl ?_
  refine ev_getI rfl rfl fl_X10_186 rfl rfl rfl ?_
  try simp (disch := decide) only [ev_rd1, ev_rd2, e16]
  refine ev_iconst (v := 1) rfl rfl (by decide) ?_
  refine ev_iadd rfl rfl ?_
  refine ev_putI rfl rfl fl_X10_186 rfl rfl rfl rfl rfl ?_
  simp only [nI_1]
  refine ev_iinc (y := (-8)) rfl rfl rfl (by decide) rfl rfl ?_
  dsimp only [List.set]
  refine ev_goto rfl rfl ?_
  refine ev_iload_n rfl rfl rfl ?_
  refine ev_if_lt rfl rfl (fun z_ => absurd z_ (by decide)) (fun c_20bb => ?_)
  refine ev_aload_n rfl rfl rfl ?_
  refine ev_getR rfl rfl fl_X10_48 rfl rfl rfl rfl ?_
  refine ev_aload_n rfl rfl rfl ?_
  refine ev_getI rfl rfl fl_X10_186 rfl rfl rfl ?_
  try simp (disch := decide) only [ev_rd1, ev_rd2, e16]
  refine ev_lload_n rfl rfl rfl ?_
  refine ev_iload_n rfl rfl rfl ?_
  refine ev_lshr rfl rfl ?_
  refine ev_ldc2 rfl rfl kc_X10_189 ?_
  refine ev_land rfl rfl ?_
  refine ev_l2i rfl rfl ?_
  refine ev_iast rfl rfl rfl rfl (vp_in_nI (by omega) (by decide)) (nI_clamp (by omega)) ?_
  refine ev_aload_n rfl rfl rfl ?_
  refine ev_dup rfl rfl rfl ?_
  refine ev_getI rfl rfl fl_X10_186 rfl rfl rfl ?_
  try simp (disch := decide) only [ev_rd1, ev_rd2, e16]
  refine ev_iconst (v := 1) rfl rfl (by decide) ?_
  refine ev_iadd rfl rfl ?_
  refine ev_putI rfl rfl fl_X10_186 rfl rfl rfl rfl rfl ?_
  simp only [nI_1]
  refine ev_iinc (y := (-8)) rfl rfl rfl (by decide) rfl rfl ?_
  dsimp only [List.set]
  refine ev_goto rfl rfl ?_
  refine ev_iload_n rfl rfl rfl ?_
  refine ev_if_lt rfl rfl (fun z_ => absurd z_ (by decide)) (fun c_20bbb => ?_)
  refine ev_aload_n rfl rfl rfl ?_
  refine ev_getR rfl rfl fl_X10_48 rfl rfl rfl rfl ?_
  refine ev_aload_n rfl rfl rfl ?_
  refine ev_getI rfl rfl fl_X10_186 rfl rfl rfl ?_
  try simp (disch := decide) only [ev_rd1, ev_rd2, e16]
  refine ev_lload_n rfl rfl rfl ?_
  refine ev_iload_n rfl rfl rfl ?_
  refine ev_lshr rfl rfl ?_
  refine ev_ldc2 rfl rfl kc_X10_189 ?_
  refine ev_land rfl rfl ?_
  refine ev_l2i rfl rfl ?_
  refine ev_iast rfl rfl rfl rfl (vp_in_nI (by omega) (by decide)) (nI_clamp (by omega)) ?_
  refine ev_aload_n rfl rfl rfl ?_
  refine ev_dup rfl rfl rfl ?_
  refine ev_getI rfl rfl fl_X10_186 rfl rfl rfl ?_
  try simp (disch := decide) only [ev_rd1, ev_rd2, e16]
  refine ev_iconst (v := 1) rfl rfl (by decide) ?_
  refine ev_iadd rfl rfl ?_
  refine ev_putI rfl rfl fl_X10_186 rfl rfl rfl rfl rfl ?_
  simp only [nI_1]
  refine ev_iinc (y := (-8)) rfl rfl rfl (by decide) rfl rfl ?_
  dsimp only [List.set]
  refine ev_goto rfl rfl ?_
  refine ev_iload_n rfl rfl rfl ?_
  refine ev_if_lt rfl rfl (fun z_ => absurd z_ (by decide)) (fun c_20bbbb => ?_)
  refine ev_aload_n rfl rfl rfl ?_
  refine ev_getR rfl rfl fl_X10_48 rfl rfl rfl rfl ?_
  refine ev_aload_n rfl rfl rfl ?_
  refine ev_getI rfl rfl fl_X10_186 rfl rfl rfl ?_
  try simp (disch := decide) only [ev_rd1, ev_rd2, e16]
  refine ev_lload_n rfl rfl rfl ?_
  refine ev_iload_n rfl rfl rfl ?_
  refine ev_lshr rfl rfl ?_
  refine ev_ldc2 rfl rfl kc_X10_189 ?_
  refine ev_land rfl rfl ?_
  refine ev_l2i rfl rfl ?_
  refine ev_iast rfl rfl rfl rfl (vp_in_nI (by omega) (by decide)) (nI_clamp (by omega)) ?_
  refine ev_aload_n rfl rfl rfl ?_
  refine ev_dup rfl rfl rfl ?_
  refine ev_getI rfl rfl fl_X10_186 rfl rfl rfl ?_
  try simp (disch := decide) only [ev_rd1, ev_rd2, e16]
  refine ev_iconst (v := 1) rfl rfl (by decide) ?_
  refine ev_iadd rfl rfl ?_
  refine ev_putI rfl rfl fl_X10_186 rfl rfl rfl rfl rfl ?_
  simp only [nI_1]
  refine ev_iinc (y := (-8)) rfl rfl rfl (by decide) rfl rfl ?_
  dsimp only [List.set]
  refine ev_goto rfl rfl ?_
  refine ev_iload_n rfl rfl rfl ?_
  refine ev_if_lt rfl rfl (fun z_ => absurd z_ (by decide)) (fun c_20bbbbb => ?_)
  refine ev_aload_n rfl rfl rfl ?_
  refine ev_getR rfl rfl fl_X10_48 rfl rfl rfl rfl ?_
  refine ev_aload_n rfl rfl rfl ?_
  refine ev_getI rfl rfl fl_X10_186 rfl rfl rfl ?_
  try simp (disch := decide) only [ev_rd1, ev_rd2, e16]
  refine ev_lload_n rfl rfl rfl ?_
  refine ev_iload_n rfl rfl rfl ?_
  refine ev_lshr rfl rfl ?_
  refine ev_ldc2 rfl rfl kc_X10_189 ?_
  refine ev_land rfl rfl ?_
  refine ev_l2i rfl rfl ?_
  refine ev_iast rfl rfl rfl rfl (vp_in_nI (by omega) (by decide)) (nI_clamp (by omega)) ?_
  refine ev_aload_n rfl rfl rfl ?_
  refine ev_dup rfl rfl rfl ?_
  refine ev_getI rfl rfl fl_X10_186 rfl rfl rfl ?_
  try simp (disch := decide) only [ev_rd1, ev_rd2, e16]
  refine ev_iconst (v := 1) rfl rfl (by decide) ?_
  refine ev_iadd rfl rfl ?_
  refine ev_putI rfl rfl fl_X10_186 rfl rfl rfl rfl rfl ?_
  simp only [nI_1]
  refine ev_iinc (y := (-8)) rfl rfl rfl (by decide) rfl rfl ?_
  dsimp only [List.set]
  refine ev_goto rfl rfl ?_
  refine ev_iload_n rfl rfl rfl ?_
  refine ev_if_lt rfl rfl (fun z_ => absurd z_ (by decide)) (fun c_20bbbbbb => ?_)
  refine ev_aload_n rfl rfl rfl ?_
  refine ev_getR rfl rfl fl_X10_48 rfl rfl rfl rfl ?_
  refine ev_aload_n rfl rfl rfl ?_
  refine ev_getI rfl rfl fl_X10_186 rfl rfl rfl ?_
  try simp (disch := decide) only [ev_rd1, ev_rd2, e16]
  refine ev_lload_n rfl rfl rfl ?_
  refine ev_iload_n rfl rfl rfl ?_
  refine ev_lshr rfl rfl ?_
  refine ev_ldc2 rfl rfl kc_X10_189 ?_
  refine ev_land rfl rfl ?_
  refine ev_l2i rfl rfl ?_
  refine ev_iast rfl rfl rfl rfl (vp_in_nI (by omega) (by decide)) (nI_clamp (by omega)) ?_
  refine ev_aload_n rfl rfl rfl ?_
  refine ev_dup rfl rfl rfl ?_
  refine ev_getI rfl rfl fl_X10_186 rfl rfl rfl ?_
  try simp (disch := decide) only [ev_rd1, ev_rd2, e16]
  refine ev_iconst (v := 1) rfl rfl (by decide) ?_
  refine ev_iadd rfl rfl ?_
  refine ev_putI rfl rfl fl_X10_186 rfl rfl rfl rfl rfl ?_
  simp only [nI_1]
  refine ev_iinc (y := (-8)) rfl rfl rfl (by decide) rfl rfl ?_
  dsimp only [List.set]
  refine ev_goto rfl rfl ?_
  refine ev_iload_n rfl rfl rfl ?_
  refine ev_if_lt rfl rfl (fun z_ => absurd z_ (by decide)) (fun c_20bbbbbbb => ?_)
  refine ev_aload_n rfl rfl rfl ?_
  refine ev_getR rfl rfl fl_X10_48 rfl rfl rfl rfl ?_
  refine ev_aload_n rfl rfl rfl ?_
  refine ev_getI rfl rfl fl_X10_186 rfl rfl rfl ?_
  try simp (disch := decide) only [ev_rd1, ev_rd2, e16]
  refine ev_lload_n rfl rfl rfl ?_
  refine ev_iload_n rfl rfl rfl ?_
  refine ev_lshr rfl rfl ?_
  refine ev_ldc2 rfl rfl kc_X10_189 ?_
  refine ev_land rfl rfl ?_
  refine ev_l2i rfl rfl ?_
  refine ev_iast rfl rfl rfl rfl (vp_in_nI (by omega) (by decide)) (nI_clamp (by omega)) ?_
  refine ev_aload_n rfl rfl rfl ?_
  refine ev_dup rfl rfl rfl ?_
  refine ev_getI rfl rfl fl_X10_186 rfl rfl rfl ?_
  try simp (disch := decide) only [ev_rd1, ev_rd2, e16]
  refine ev_iconst (v := 1) rfl rfl (by decide) ?_
  refine ev_iadd rfl rfl ?_
  refine ev_putI rfl rfl fl_X10_186 rfl rfl rfl rfl rfl ?_
  simp only [nI_1]
  refine ev_iinc (y := (-8)) rfl rfl rfl (by decide) rfl rfl ?_
  dsimp only [List.set]
  refine ev_goto rfl rfl ?_
  refine ev_iload_n rfl rfl rfl ?_
  refine ev_if_lt rfl rfl (fun c_20bbbbbbbb => ?_) (fun z_ => absurd (by decide) z_)
  refine ev_aload_n rfl rfl rfl ?_
  refine ev_getI rfl rfl fl_X10_186 rfl rfl rfl ?_
  try simp (disch := decide) only [ev_rd1, ev_rd2, e16]
  exact ev_iret rfl rfl rfl (⟨rfl, rfl, rfl⟩)

set_option maxRecDepth 100000 in
set_option maxHeartbeats 4000000 in
theorem c_mfeedF (L : Nat) (b : Bool) (h : Hp) (m : Nat) (hm0 : m ≤ 160) (e16 : h 63 16 = nI m) (hm8 : ¬ m + 8 ≤ 160) (x : Int64) : EvD mi_X10_feed [.ref 63, .long x] (G0 L b) h (-3) (h) := by
  refine EvD.of (lo := [some (.ref 63), some (.long x), none, none]) pf_X10_feed ok_X10_feed rfl rfl ?_
  refine ev_aload_n rfl rfl rfl ?_
  refine ev_getI rfl rfl fl_X10_186 rfl rfl rfl ?_
  try simp (disch := decide) only [ev_rd1, ev_rd2, e16]
  refine ev_bipush (v := 8) rfl rfl (by decide) ?_
  refine ev_iadd rfl rfl ?_
  try rw [show nI m + 8 = nI (m + 8) from nI_add m 8]
  refine ev_sipush (v := 160) rfl rfl (by decide) ?_
  refine ev_icmp_le rfl rfl (fun z_ => absurd z_ (fun z_ => absurd ((nI_le2 (a := m + 8) (b := 160) (by omega) (by decide)).mp z_) hm8)) (fun c_10 => ?_)
  refine ev_bipush (v := (-3)) rfl rfl (by decide) ?_
  exact ev_iret rfl rfl rfl (⟨rfl, rfl, rfl⟩)

def z_sh (i : Nat) : Int32 := match i with
  | 0 => 56
  | 1 => (56 + (-8))
  | 2 => ((56 + (-8)) + (-8))
  | 3 => (((56 + (-8)) + (-8)) + (-8))
  | 4 => ((((56 + (-8)) + (-8)) + (-8)) + (-8))
  | 5 => (((((56 + (-8)) + (-8)) + (-8)) + (-8)) + (-8))
  | 6 => ((((((56 + (-8)) + (-8)) + (-8)) + (-8)) + (-8)) + (-8))
  | _ => (((((((56 + (-8)) + (-8)) + (-8)) + (-8)) + (-8)) + (-8)) + (-8))
theorem w_feedM (L : Nat) (b : Bool) (h : Hp) (hB : Bx h) (m : Nat) (hm0 : m ≤ 160) (e16 : h 63 16 = nI m) (x : Int64) : EvI mi_X10_feed [.ref 63, .long x] (G0 L b) h (fun r z => (m + 8 ≤ 160 → r = nI (m + 8) ∧ z 63 16 = nI (m + 8) ∧ (∀ j, j < m → z 72 j = h 72 j) ∧ ∀ i, i < 8 → z 72 (m + i) = z_mb x (z_sh i)) ∧ (¬ m + 8 ≤ 160 → r = -3 ∧ z = h)) [(63, 16), (72, 999)] := by
  by_cases c : m + 8 ≤ 160
  · refine (c_mfeed L b h m hm0 e16 c x).ir (((((((((((((((((JW.refl hB).set rfl (B.l255 _)).set rfl (nI_160 (by omega))).set rfl (B.l255 _)).set rfl (nI_160 (by omega))).set rfl (B.l255 _)).set rfl (nI_160 (by omega))).set rfl (B.l255 _)).set rfl (nI_160 (by omega))).set rfl (B.l255 _)).set rfl (nI_160 (by omega))).set rfl (B.l255 _)).set rfl (nI_160 (by omega))).set rfl (B.l255 _)).set rfl (nI_160 (by omega))).set rfl (B.l255 _)).set rfl (nI_160 (by omega))) ⟨fun _ => ⟨rfl, ev_rd1 _ _ _ _, fun j hj => ?_, fun i hi => ?_⟩, fun q => absurd c q⟩
    · simp (disch := omega) only [ev_rd2, ev_rd3]
    · rcases (show i = 0 ∨ i = 1 ∨ i = 2 ∨ i = 3 ∨ i = 4 ∨ i = 5 ∨ i = 6 ∨ i = 7 by omega) with rfl | rfl | rfl | rfl | rfl | rfl | rfl | rfl <;> (simp (disch := omega) only [ev_rd2]; repeat (first | exact ev_rd1 _ _ _ _ | rw [ev_rd3 (by omega)] | rw [ev_rd2 (by decide)]))
  · exact (c_mfeedF L b h m hm0 e16 c x).ir (JW.refl hB) ⟨fun q => absurd q c, fun _ => ⟨rfl, rfl⟩⟩
theorem bt_mb (x : Int64) {i : Nat} (hi : i < 8) : SB (z_bt x i) (z_mb x (z_sh i)) := by
  have e : (56 - 8 * nI i : Int32) = z_sh i := by
    rcases (show i = 0 ∨ i = 1 ∨ i = 2 ∨ i = 3 ∨ i = 4 ∨ i = 5 ∨ i = 6 ∨ i = 7 by omega) with rfl | rfl | rfl | rfl | rfl | rfl | rfl | rfl <;> decide
  unfold z_bt z_mb
  rw [e]
  exact byte_sb _

set_option maxRecDepth 100000 in
set_option maxHeartbeats 4000000 in
theorem c_mend (L : Nat) (b : Bool) (h : Hp) (v : Int32) : EvD mi_X10_end [.ref 63, .int v] (G0 L b) h (if z_wi v 0 (h 63 16) = 0 then -1 else h 63 16) (if z_wi v 0 (h 63 16) = 0 then h else ev_set h 63 16 v) := by
  refine EvD.of (lo := [some (.ref 63), some (.int v), none]) pf_X10_end ok_X10_end rfl rfl ?_
  refine ev_iload_n rfl rfl rfl ?_
  refine ev_i2l rfl rfl ?_
  refine ev_lconst (v := 0) rfl rfl rfl ?_
  refine ev_aload_n rfl rfl rfl ?_
  refine ev_getI rfl rfl fl_X10_186 rfl rfl rfl ?_
  refine ev_i2l rfl rfl ?_
  refine ev_S3D rfl rfl lk_X10_124 st_X10_in rfl rfl (c_inw _ _ _ (0) (h 63 16) (by decide) rfl) ?_
  refine ev_if_ne rfl rfl (fun c_11 => ?_) (fun c_11 => ?_)
  · refine ev_aload_n rfl rfl rfl ?_
    refine ev_getI rfl rfl fl_X10_186 rfl rfl rfl ?_
    refine ev_istore_n rfl rfl rfl rfl ?_
    dsimp only [List.set]
    refine ev_aload_n rfl rfl rfl ?_
    refine ev_iload_n rfl rfl rfl ?_
    refine ev_putI rfl rfl fl_X10_186 rfl rfl rfl rfl rfl ?_
    refine ev_iload_n rfl rfl rfl ?_
    exact ev_iret rfl rfl rfl (⟨congrArg (fun z => some (Value.int z)) (by simp only [if_neg c_11]), rfl, by simp only [if_neg c_11]⟩)
  · refine ev_iconst (v := (-1)) rfl rfl (by decide) ?_
    exact ev_iret rfl rfl rfl (⟨congrArg (fun z => some (Value.int z)) (by simp only [if_pos c_11]), rfl, by simp only [if_pos c_11]⟩)

/-- tapes and tunes are the same on both sides -/
def RTU (h : Hp) : Prop := h 23 1 = h 63 16 ∧ (∀ j, j < (h 23 1).toNatClampNeg → SB (h 24 j) (h 72 j)) ∧ h 28 2 = h 63 23 ∧ ∀ t, t < (h 28 2).toNatClampNeg → h 36 t = h 73 t ∧ ∀ i, i < (h 36 t).toNatClampNeg → h (30 + t) i = h 74 (24 * t + i)
theorem rtu_of {h h1 : Hp} (hR : RTU h) (e1 : h1 23 1 = h1 63 16) (e2 : ∀ j, j < (h1 23 1).toNatClampNeg → SB (h1 24 j) (h1 72 j)) (f1 : h1 28 2 = h 28 2) (f2 : h1 63 23 = h 63 23) (f3 : ∀ a j, 30 ≤ a → a ≤ 36 → h1 a j = h a j) (f4 : ∀ j, h1 73 j = h 73 j) (f5 : ∀ j, h1 74 j = h 74 j) (h6 : B (h 28 2) 0 6) : RTU h1 := by
  obtain ⟨-, -, r3, r4⟩ := hR
  have l6 := (B.nI (u := 6) h6).2
  refine ⟨e1, e2, by rw [f1, f2]; exact r3, fun t ht => ?_⟩
  rw [f1] at ht
  obtain ⟨a1, a2⟩ := r4 t ht
  rw [f3 36 t (by omega) (by omega), f4 t]
  refine ⟨a1, fun i hi => ?_⟩
  rw [f3 (30 + t) i (by omega) (by omega), f5]
  exact a2 i hi
theorem fr36 {W : List (Nat × Nat)} {h h1 : Hp} (hJ : JW W h h1) (w0 : ∀ j, wm W 30 j = false) (w1 : ∀ j, wm W 31 j = false) (w2 : ∀ j, wm W 32 j = false) (w3 : ∀ j, wm W 33 j = false) (w4 : ∀ j, wm W 34 j = false) (w5 : ∀ j, wm W 35 j = false) (w6 : ∀ j, wm W 36 j = false) (a j : Nat) (h1_ : 30 ≤ a) (h2_ : a ≤ 36) : h1 a j = h a j := by
  rcases (show a = 30 ∨ a = 31 ∨ a = 32 ∨ a = 33 ∨ a = 34 ∨ a = 35 ∨ a = 36 by omega) with rfl | rfl | rfl | rfl | rfl | rfl | rfl
  · exact hJ.2 _ j (w0 j)
  · exact hJ.2 _ j (w1 j)
  · exact hJ.2 _ j (w2 j)
  · exact hJ.2 _ j (w3 j)
  · exact hJ.2 _ j (w4 j)
  · exact hJ.2 _ j (w5 j)
  · exact hJ.2 _ j (w6 j)
/-- feed, both sides -/
theorem rel_feed {h h1 h2 : Hp} (hB : Bx h) (hR : RTU h) (x : Int64) (k1 : JW [(23, 1), (24, 999)] h h1) (k2 : JW [(63, 16), (72, 999)] h1 h2) {r1 r2 : Int32} {m : Nat} (hm0 : m ≤ 160) (hm : h 23 1 = nI m)
    (q1 : (m + 8 ≤ 160 → r1 = nI (m + 8) ∧ h1 23 1 = nI (m + 8) ∧ (∀ j, j < m → h1 24 j = h 24 j) ∧ ∀ i, i < 8 → h1 24 (m + i) = z_bt x i) ∧ (¬ m + 8 ≤ 160 → r1 = -3 ∧ h1 = h))
    (q2 : (m + 8 ≤ 160 → r2 = nI (m + 8) ∧ h2 63 16 = nI (m + 8) ∧ (∀ j, j < m → h2 72 j = h1 72 j) ∧ ∀ i, i < 8 → h2 72 (m + i) = z_mb x (z_sh i)) ∧ (¬ m + 8 ≤ 160 → r2 = -3 ∧ h2 = h1)) : r1 = r2 ∧ RTU h2 := by
  by_cases c : m + 8 ≤ 160
  · obtain ⟨a1, a2, a3, a4⟩ := q1.1 c
    obtain ⟨b1, b2, b3, b4⟩ := q2.1 c
    refine ⟨a1.trans b1.symm, rtu_of hR ?_ (fun j hj => ?_) ?_ ?_ (fun a j g1 g2 => ?_) (fun j => ?_) (fun j => ?_) (hB 28 2)⟩
    · rw [k2.2 23 1 rfl, a2, b2]
    · rw [k2.2 23 1 rfl, a2, nI_clamp (by omega)] at hj
      rw [k2.2 24 j rfl]
      by_cases w : j < m
      · rw [a3 j w, b3 j w, k1.2 72 j rfl]
        exact hR.2.1 j (by rw [hm, nI_clamp (by omega)]; exact w)
      · obtain ⟨i, rfl⟩ : ∃ i, j = m + i := ⟨j - m, by omega⟩
        rw [a4 i (by omega), b4 i (by omega)]
        exact bt_mb x (by omega)
    · rw [k2.2 28 2 rfl, k1.2 28 2 rfl]
    · rw [k2.2 63 23 rfl, k1.2 63 23 rfl]
    · rw [fr36 k2 (fun _ => rfl) (fun _ => rfl) (fun _ => rfl) (fun _ => rfl) (fun _ => rfl) (fun _ => rfl) (fun _ => rfl) a j g1 g2, fr36 k1 (fun _ => rfl) (fun _ => rfl) (fun _ => rfl) (fun _ => rfl) (fun _ => rfl) (fun _ => rfl) (fun _ => rfl) a j g1 g2]
    · rw [k2.2 73 j rfl, k1.2 73 j rfl]
    · rw [k2.2 74 j rfl, k1.2 74 j rfl]
  · obtain ⟨a1, a2⟩ := q1.2 c
    obtain ⟨b1, b2⟩ := q2.2 c
    refine ⟨a1.trans b1.symm, ?_⟩
    rw [b2, a2]
    exact hR
/-- end, both sides -/
def kcE (h : Hp) (v : Int32) : Hp := if z_wi v 0 (h 23 1) = 0 then h else ev_set h 23 1 v
def rcE (h : Hp) (v : Int32) : Int32 := if z_wi v 0 (h 23 1) = 0 then -1 else h 23 1
def kmE (h : Hp) (v : Int32) : Hp := if z_wi v 0 (h 63 16) = 0 then h else ev_set h 63 16 v
def rmE (h : Hp) (v : Int32) : Int32 := if z_wi v 0 (h 63 16) = 0 then -1 else h 63 16
theorem w_endC (L : Nat) (b : Bool) (h : Hp) (hB : Bx h) (v : Int32) : EvI mi_X9_end [.ref 1, .int v] (G0 L b) h (fun r z => r = rcE h v ∧ z = kcE h v) [(23, 1)] := by
  refine (x_end L b h v).ix ?_
  split
  · exact JW.refl hB
  · rename_i q
    have z := z_wi_B (by decide : B 0 0 0) (show B (h 23 1) 0 160 from hB 23 1) q
    exact (JW.refl hB).set rfl z
theorem w_endM (L : Nat) (b : Bool) (h : Hp) (hB : Bx h) (v : Int32) : EvI mi_X10_end [.ref 63, .int v] (G0 L b) h (fun r z => r = rmE h v ∧ z = kmE h v) [(63, 16)] := by
  refine (c_mend L b h v).ix ?_
  split
  · exact JW.refl hB
  · rename_i q
    have z := z_wi_B (by decide : B 0 0 0) (show B (h 63 16) 0 160 from hB 63 16) q
    exact (JW.refl hB).set rfl z
theorem rel_end {h : Hp} (hB : Bx h) (hR : RTU h) (v : Int32) : rcE h v = rmE (kcE h v) v ∧ RTU (kmE (kcE h v) v) := by
  have r1 := hR.1
  unfold rcE kcE rmE kmE
  by_cases q : z_wi v 0 (h 23 1) = 0
  · have q2 : z_wi v 0 (h 63 16) = 0 := by rw [← r1]; exact q
    simp only [if_pos q, if_pos q2]
    exact ⟨trivial, hR⟩
  · have q2 : ¬ z_wi v 0 (h 63 16) = 0 := by rw [← r1]; exact q
    have bv := z_wi_B (by decide : B 0 0 0) (show B (h 23 1) 0 160 from hB 23 1) q
    have lv : v.toInt ≤ (h 23 1).toInt := by
      have z : ¬ h 23 1 < v := fun y => by
        unfold z_wi at q
        by_cases w : v < 0
        · rw [if_pos w] at q; exact q rfl
        · rw [if_neg w, if_pos y] at q; exact q rfl
      exact w_nlt z
    simp only [if_neg q]
    have e16 : ev_set h 23 1 v 63 16 = h 63 16 := ev_rd2 (by decide)
    rw [e16]
    simp only [if_neg q2]
    refine ⟨r1, rtu_of hR ?_ (fun j hj => ?_) ?_ ?_ (fun a j g1 g2 => ?_) (fun j => ?_) (fun j => ?_) (hB 28 2)⟩
    · simp (disch := decide) only [ev_rd1, ev_rd2, ev_rd3]
    · rw [ev_rd2 (by decide), ev_rd1] at hj
      rw [ev_rd2 (by decide), ev_rd2 (by decide), ev_rd2 (by decide), ev_rd2 (by decide)]
      refine hR.2.1 j ?_
      have z1 : v.toNatClampNeg = v.toInt.toNat := rfl
      have z2 : (h 23 1).toNatClampNeg = (h 23 1).toInt.toNat := rfl
      omega
    · simp (disch := decide) only [ev_rd1, ev_rd2, ev_rd3]
    · simp (disch := decide) only [ev_rd1, ev_rd2, ev_rd3]
    · rw [ev_rd2 (by omega), ev_rd2 (by omega)]
    · simp (disch := decide) only [ev_rd1, ev_rd2, ev_rd3]
    · simp (disch := decide) only [ev_rd1, ev_rd2, ev_rd3]
/-- tune, both sides -/
theorem rel_tune {h h1 h2 : Hp} (hB : Bx h) (hR : RTU h) {t : Nat} (ht : t < 6) (et : h 28 2 = nI t) (k1 : JW [(23, 1), (23, 2), (23, 3), (23, 4), (23, 5), (23, 6), (23, 7), (23, 8), (23, 10), (23, 13), (25, 999), (26, 999), (27, 999), (28, 2), (30, 999), (31, 999), (32, 999), (33, 999), (34, 999), (35, 999), (36, 999)] h h1) (k2 : JW [(63, 16), (63, 17), (63, 18), (63, 19), (63, 20), (63, 21), (63, 22), (63, 23), (63, 27), (63, 28), (63, 31), (73, 999), (74, 999), (75, 999), (76, 999), (77, 999)] h1 h2) {o : Option (Nat × (Nat → Int32))} (ho : ∀ x, o = some x → x.1 ≤ 24) (q1 : TUC t o h h1) (q2 : TUM t o h1 h2) : RTU h2 := by
  obtain ⟨-, -, r3, r4⟩ := hR
  obtain ⟨a0, a1⟩ := q1
  obtain ⟨b0, b1⟩ := q2
  have et' : (h 28 2).toNatClampNeg = t := by rw [et]; exact nI_clamp (by omega)
  have f36 : ∀ a j, 30 ≤ a → a ≤ 36 → h2 a j = h1 a j := fr36 k2 (fun _ => rfl) (fun _ => rfl) (fun _ => rfl) (fun _ => rfl) (fun _ => rfl) (fun _ => rfl) (fun _ => rfl)
  refine ⟨by rw [k2.2 23 1 rfl, a0, b0], fun j hj => ?_, ?_, fun u hu => ?_⟩
  · rw [k2.2 23 1 rfl, a0] at hj
    exact absurd hj (Nat.not_lt_zero _)
  · rw [k2.2 28 2 rfl]
    cases o with
    | none => rw [a1.1, b1.1]
    | some x => rw [a1.1, b1.1]
  · rw [k2.2 28 2 rfl] at hu
    cases o with
    | none =>
      rw [a1.1, nI_clamp (by omega)] at hu
      obtain ⟨c1, c2⟩ := r4 u (by omega)
      have g36 : h2 36 u = h 36 u := (f36 36 u (by omega) (by omega)).trans (a1.2 36 u (by omega) (by omega))
      have g73 : h2 73 u = h 73 u := (b1.2.1 u).trans (k1.2 73 u rfl)
      rw [g36, g73]
      refine ⟨c1, fun i hi => ?_⟩
      rw [f36 (30 + u) i (by omega) (by omega), a1.2 (30 + u) i (by omega) (by omega), b1.2.2, k1.2 74 _ rfl]
      exact c2 i hi
    | some x =>
      have xl := ho x rfl
      rw [a1.1, nI_clamp (by omega)] at hu
      obtain ⟨-, a2, a3, a4, a5⟩ := a1
      obtain ⟨-, b2, b3, b4, b5⟩ := b1
      by_cases w : u = t
      · subst w
        rw [f36 36 u (by omega) (by omega), a2, b2]
        refine ⟨rfl, fun i hi => ?_⟩
        rw [nI_clamp (by omega)] at hi
        rw [f36 (30 + u) i (by omega) (by omega), a3 i hi, b3 i hi]
      · obtain ⟨c1, c2⟩ := r4 u (by omega)
        have g36 : h2 36 u = h 36 u := (f36 36 u (by omega) (by omega)).trans (a4 u w)
        have g73 : h2 73 u = h 73 u := (b4 u w).trans (k1.2 73 u rfl)
        rw [g36, g73]
        refine ⟨c1, fun i hi => ?_⟩
        have l24 : (h 36 u).toNatClampNeg ≤ 24 := (B.nI (u := 24) (hB 36 u)).2
        rw [f36 (30 + u) i (by omega) (by omega), a5 u i (by omega) w, b5 _ (by omega), k1.2 74 _ rfl]
        exact c2 i hi

