def s_mor (h : Hp) (n : Nat) : Nat → Int32
  | 0 => 0
  | i + 1 => s_mor h n i ||| h 74 (24 * n + i)
def z_mv2 (x k : Int32) : Int32 := if 0 ≤ k then x <<< (k &&& 31) else x >>> (-k &&& 31)
theorem z_mv2_eq (x k : Int32) : z_mv2 x k = z_mv x k := by
  unfold z_mv2 z_mv
  by_cases q : k < 0
  · rw [if_pos q, if_neg (Int32.not_le.mpr q)]
  · rw [if_neg q, if_pos (Int32.not_lt.mp q)]
theorem ix24 (n i : Nat) : (24 : Int32) * nI n + nI i = nI (24 * n + i) := by
  rw [show (24 : Int32) = nI 24 from rfl, nI_mul, nI_add]

set_option maxRecDepth 100000 in
set_option maxHeartbeats 4000000 in
theorem c_mchordAt (L : Nat) (b : Bool) (h : Hp) (n : Nat) (hn : n < 6) (i : Nat) (hi : i < 24) : EvD mi_X10_chordAt [.ref 63, .int (nI n), .int (nI i)] (G0 L b) h (h 74 (24 * n + i)) (h) := by
  refine EvD.of (lo := [some (.ref 63), some (.int (nI n)), some (.int (nI i))]) pf_X10_chordAt ok_X10_chordAt rfl rfl ?_
  refine ev_aload_n rfl rfl rfl ?_
  refine ev_getR rfl rfl fl_X10_54 rfl rfl rfl rfl ?_
  refine ev_bipush (v := 24) rfl rfl (by decide) ?_
  refine ev_iload_n rfl rfl rfl ?_
  refine ev_imul rfl rfl ?_
  refine ev_iload_n rfl rfl rfl ?_
  refine ev_iadd rfl rfl ?_
  refine ev_iald (j := 24 * n + i) rfl rfl rfl (by rw [ix24]; exact vp_in_nI (by omega) (by decide)) (by rw [ix24]; exact nI_clamp (by omega)) ?_
  exact ev_iret rfl rfl rfl (⟨rfl, rfl, rfl⟩)

set_option maxRecDepth 100000 in
set_option maxHeartbeats 4000000 in
theorem c_mmoved (L : Nat) (b : Bool) (h : Hp) (x k : Int32) : EvD mi_X10_moved [.ref 63, .int x, .int k] (G0 L b) h (z_mv2 x k) (h) := by
  refine EvD.of (lo := [some (.ref 63), some (.int x), some (.int k)]) pf_X10_moved ok_X10_moved rfl rfl ?_
  refine ev_iload_n rfl rfl rfl ?_
  refine ev_if_ge rfl rfl (fun c_1 => ?_) (fun c_1 => ?_)
  · refine ev_iload_n rfl rfl rfl ?_
    refine ev_iload_n rfl rfl rfl ?_
    refine ev_ishl rfl rfl ?_
    exact ev_iret rfl rfl rfl (⟨congrArg (fun z => some (Value.int z)) (by simp only [z_mv2, if_pos c_1]), rfl, rfl⟩)
  · refine ev_iload_n rfl rfl rfl ?_
    refine ev_iload_n rfl rfl rfl ?_
    refine ev_ineg rfl rfl ?_
    refine ev_ishr rfl rfl ?_
    refine ev_goto rfl rfl ?_
    exact ev_iret rfl rfl rfl (⟨congrArg (fun z => some (Value.int z)) (by simp only [z_mv2, if_neg c_1]), rfl, rfl⟩)

set_option maxRecDepth 100000 in
set_option maxHeartbeats 4000000 in
theorem l_mallOf (L : Nat) (b : Bool) (h : Hp) (n : Nat) (hn : n < 6) (m : Nat) (hm0 : m ≤ 24) (hm : h 73 n = nI m)  : ∀ t i : Nat, i + t = m → EvQ mi_X10_allOf 4 [some (.ref 63), some (.int (nI n)), some (.int (s_mor h n i)), some (.int (nI i))] [] (G0 L b) h 0 0 (fun v G' h' => v = some (.int (s_mor h n m)) ∧ G' = G0 L b ∧ h' = h) := by
  intro t
  induction t with
  | zero =>
    intro i hi
    have hi2 : i = m := by omega
    subst hi2
    refine ev_iload_n rfl rfl rfl ?_
    refine ev_aload_n rfl rfl rfl ?_
    refine ev_getR rfl rfl fl_X10_51 rfl rfl rfl rfl ?_
    refine ev_iload_n rfl rfl rfl ?_
    refine ev_iald rfl rfl rfl (vp_in_nI (by omega) (by decide)) (nI_clamp (by omega)) ?_
    refine ev_icmp_ge rfl rfl (fun c_11 => ?_) (fun z_ => absurd (by rw [hm]; exact Int32.le_refl _) z_)
    refine ev_iload_n rfl rfl rfl ?_
    exact ev_iret rfl rfl rfl (⟨rfl, rfl, rfl⟩)
  | succ t ih =>
    intro i hi
    refine ev_iload_n rfl rfl rfl ?_
    refine ev_aload_n rfl rfl rfl ?_
    refine ev_getR rfl rfl fl_X10_51 rfl rfl rfl rfl ?_
    refine ev_iload_n rfl rfl rfl ?_
    refine ev_iald rfl rfl rfl (vp_in_nI (by omega) (by decide)) (nI_clamp (by omega)) ?_
    refine ev_icmp_ge rfl rfl (fun z_ => absurd z_ (by rw [hm]; exact nI_ge (by omega) (by omega))) (fun c_11 => ?_)
    refine ev_iload_n rfl rfl rfl ?_
    refine ev_aload_n rfl rfl rfl ?_
    refine ev_iload_n rfl rfl rfl ?_
    refine ev_iload_n rfl rfl rfl ?_
    refine ev_V2D rfl rfl lk_X10_263 vt_X10_chordAt rfl rfl rfl rfl rfl (c_mchordAt L b h n hn i (by omega)) ?_
    refine ev_ior rfl rfl ?_
    refine ev_istore_n rfl rfl rfl rfl ?_
    dsimp only [List.set]
    refine ev_iinc (y := 1) rfl rfl rfl (by decide) rfl rfl ?_
    dsimp only [List.set]
    refine ev_goto rfl rfl ?_
    have z_ := ih (i + 1) (by omega)
    simp only [s_mor] at z_
    rw [nI_1 i]
    exact z_

set_option maxRecDepth 100000 in
set_option maxHeartbeats 4000000 in
theorem c_mallOf (L : Nat) (b : Bool) (h : Hp) (n : Nat) (hn : n < 6) (m : Nat) (hm0 : m ≤ 24) (hm : h 73 n = nI m)  : EvD mi_X10_allOf [.ref 63, .int (nI n)] (G0 L b) h (s_mor h n m) (h) := by
  refine EvD.of (lo := [some (.ref 63), some (.int (nI n)), none, none]) pf_X10_allOf ok_X10_allOf rfl rfl ?_
  refine ev_iconst (v := 0) rfl rfl (by decide) ?_
  refine ev_istore_n rfl rfl rfl rfl ?_
  dsimp only [List.set]
  refine ev_iconst (v := 0) rfl rfl (by decide) ?_
  refine ev_istore_n rfl rfl rfl rfl ?_
  dsimp only [List.set]
  exact l_mallOf L b h n hn m hm0 hm m 0 (by omega)

set_option maxRecDepth 100000 in
set_option maxHeartbeats 4000000 in
theorem c_misW (L : Nat) (b : Bool) (h : Hp) (w : Int32) : EvD mi_X10_isWhistle [.ref 63, .int w] (G0 L b) h (z_wi w 0 (h 63 5 - 1)) (h) := by
  refine EvD.of (lo := [some (.ref 63), some (.int w)]) pf_X10_isWhistle ok_X10_isWhistle rfl rfl ?_
  refine ev_iload_n rfl rfl rfl ?_
  refine ev_i2l rfl rfl ?_
  refine ev_lconst (v := 0) rfl rfl rfl ?_
  refine ev_aload_n rfl rfl rfl ?_
  refine ev_getI rfl rfl fl_X10_121 rfl rfl rfl ?_
  refine ev_iconst (v := 1) rfl rfl (by decide) ?_
  refine ev_isub rfl rfl ?_
  refine ev_i2l rfl rfl ?_
  refine ev_S3D rfl rfl lk_X10_124 st_X10_in rfl rfl (c_inw _ _ _ 0 _ rfl rfl) ?_
  exact ev_iret rfl rfl (z_wi_b _ _ _) (⟨rfl, rfl, rfl⟩)

def s_in (a k w : Int32) : Nat → Int32
  | 0 => 1
  | i + 1 => if s_in a k w i = 0 then 0 else if a >>> (nI i &&& 31) &&& 1 = 0 then 1 else if z_wi (nI i + k) 0 w = 0 then 0 else 1
theorem s_in_01 (a k w : Int32) : ∀ i, B (s_in a k w i) 0 1
  | 0 => by unfold s_in; decide
  | i + 1 => by
    unfold s_in
    split
    · decide
    · split
      · decide
      · split <;> decide
theorem s_in_at {a k w : Int32} : ∀ {n : Nat}, ¬ s_in a k w n = 0 → ∀ i, i < n → ¬ a >>> (nI i &&& 31) &&& 1 = 0 → ¬ z_wi (nI i + k) 0 w = 0
  | 0, _, i, hi => absurd hi (Nat.not_lt_zero i)
  | n + 1, h, i, hi => by
    intro hb
    unfold s_in at h
    by_cases q : s_in a k w n = 0
    · rw [if_pos q] at h; exact absurd rfl h
    · rw [if_neg q] at h
      by_cases e : i = n
      · subst e
        rw [if_neg hb] at h
        intro z
        rw [if_pos z] at h
        exact h rfl
      · exact s_in_at q i (by omega) hb
theorem gr_bit (x : Int32) : z_gr x = -4 ∨ ¬ x >>> (z_gr x &&& 31) &&& 1 = 0 := by
  by_cases h0 : x >>> (11 &&& 31) &&& 1 = 0
  rotate_left
  · right; have e : z_gr x = 11 := by unfold z_gr; rw [if_neg h0]
    rw [e]; exact h0
  by_cases h1 : x >>> ((11 + (-1)) &&& 31) &&& 1 = 0
  rotate_left
  · right; have e : z_gr x = (11 + (-1)) := by unfold z_gr; rw [if_pos h0, if_neg h1]
    rw [e]; exact h1
  by_cases h2 : x >>> (((11 + (-1)) + (-1)) &&& 31) &&& 1 = 0
  rotate_left
  · right; have e : z_gr x = ((11 + (-1)) + (-1)) := by unfold z_gr; rw [if_pos h0, if_pos h1, if_neg h2]
    rw [e]; exact h2
  by_cases h3 : x >>> ((((11 + (-1)) + (-1)) + (-1)) &&& 31) &&& 1 = 0
  rotate_left
  · right; have e : z_gr x = (((11 + (-1)) + (-1)) + (-1)) := by unfold z_gr; rw [if_pos h0, if_pos h1, if_pos h2, if_neg h3]
    rw [e]; exact h3
  by_cases h4 : x >>> (((((11 + (-1)) + (-1)) + (-1)) + (-1)) &&& 31) &&& 1 = 0
  rotate_left
  · right; have e : z_gr x = ((((11 + (-1)) + (-1)) + (-1)) + (-1)) := by unfold z_gr; rw [if_pos h0, if_pos h1, if_pos h2, if_pos h3, if_neg h4]
    rw [e]; exact h4
  by_cases h5 : x >>> ((((((11 + (-1)) + (-1)) + (-1)) + (-1)) + (-1)) &&& 31) &&& 1 = 0
  rotate_left
  · right; have e : z_gr x = (((((11 + (-1)) + (-1)) + (-1)) + (-1)) + (-1)) := by unfold z_gr; rw [if_pos h0, if_pos h1, if_pos h2, if_pos h3, if_pos h4, if_neg h5]
    rw [e]; exact h5
  by_cases h6 : x >>> (((((((11 + (-1)) + (-1)) + (-1)) + (-1)) + (-1)) + (-1)) &&& 31) &&& 1 = 0
  rotate_left
  · right; have e : z_gr x = ((((((11 + (-1)) + (-1)) + (-1)) + (-1)) + (-1)) + (-1)) := by unfold z_gr; rw [if_pos h0, if_pos h1, if_pos h2, if_pos h3, if_pos h4, if_pos h5, if_neg h6]
    rw [e]; exact h6
  by_cases h7 : x >>> ((((((((11 + (-1)) + (-1)) + (-1)) + (-1)) + (-1)) + (-1)) + (-1)) &&& 31) &&& 1 = 0
  rotate_left
  · right; have e : z_gr x = (((((((11 + (-1)) + (-1)) + (-1)) + (-1)) + (-1)) + (-1)) + (-1)) := by unfold z_gr; rw [if_pos h0, if_pos h1, if_pos h2, if_pos h3, if_pos h4, if_pos h5, if_pos h6, if_neg h7]
    rw [e]; exact h7
  by_cases h8 : x >>> (((((((((11 + (-1)) + (-1)) + (-1)) + (-1)) + (-1)) + (-1)) + (-1)) + (-1)) &&& 31) &&& 1 = 0
  rotate_left
  · right; have e : z_gr x = ((((((((11 + (-1)) + (-1)) + (-1)) + (-1)) + (-1)) + (-1)) + (-1)) + (-1)) := by unfold z_gr; rw [if_pos h0, if_pos h1, if_pos h2, if_pos h3, if_pos h4, if_pos h5, if_pos h6, if_pos h7, if_neg h8]
    rw [e]; exact h8
  by_cases h9 : x >>> ((((((((((11 + (-1)) + (-1)) + (-1)) + (-1)) + (-1)) + (-1)) + (-1)) + (-1)) + (-1)) &&& 31) &&& 1 = 0
  rotate_left
  · right; have e : z_gr x = (((((((((11 + (-1)) + (-1)) + (-1)) + (-1)) + (-1)) + (-1)) + (-1)) + (-1)) + (-1)) := by unfold z_gr; rw [if_pos h0, if_pos h1, if_pos h2, if_pos h3, if_pos h4, if_pos h5, if_pos h6, if_pos h7, if_pos h8, if_neg h9]
    rw [e]; exact h9
  by_cases h10 : x >>> (((((((((((11 + (-1)) + (-1)) + (-1)) + (-1)) + (-1)) + (-1)) + (-1)) + (-1)) + (-1)) + (-1)) &&& 31) &&& 1 = 0
  rotate_left
  · right; have e : z_gr x = ((((((((((11 + (-1)) + (-1)) + (-1)) + (-1)) + (-1)) + (-1)) + (-1)) + (-1)) + (-1)) + (-1)) := by unfold z_gr; rw [if_pos h0, if_pos h1, if_pos h2, if_pos h3, if_pos h4, if_pos h5, if_pos h6, if_pos h7, if_pos h8, if_pos h9, if_neg h10]
    rw [e]; exact h10
  by_cases h11 : x >>> ((((((((((((11 + (-1)) + (-1)) + (-1)) + (-1)) + (-1)) + (-1)) + (-1)) + (-1)) + (-1)) + (-1)) + (-1)) &&& 31) &&& 1 = 0
  rotate_left
  · right; have e : z_gr x = (((((((((((11 + (-1)) + (-1)) + (-1)) + (-1)) + (-1)) + (-1)) + (-1)) + (-1)) + (-1)) + (-1)) + (-1)) := by unfold z_gr; rw [if_pos h0, if_pos h1, if_pos h2, if_pos h3, if_pos h4, if_pos h5, if_pos h6, if_pos h7, if_pos h8, if_pos h9, if_pos h10, if_neg h11]
    rw [e]; exact h11
  left; unfold z_gr; rw [if_pos h0, if_pos h1, if_pos h2, if_pos h3, if_pos h4, if_pos h5, if_pos h6, if_pos h7, if_pos h8, if_pos h9, if_pos h10, if_pos h11]
theorem mv_BM {x a k n : Int32} (hx : B x 0 4095) (ha : B a 0 4095) (hs : x &&& a = x) (hk : B k (-11) 11) (hn : B n 0 12) (h : ¬ s_in a k (n - 1) 12 = 0) : B (z_mv x k) 0 4095 := by
  unfold z_mv
  by_cases q : k < 0
  · rw [if_pos q]
    exact hx.shr
  · rw [if_neg q]
    have q1 := w_nlt q
    have e0 : (0 : Int32).toInt = 0 := by decide
    have hle := sub_le hs ha
    have k0 : B k 0 11 := ⟨by omega, hk.2⟩
    by_cases q2 : a = 0
    · subst q2
      refine B.shl (g := 0) hx.1 (by omega) k0 ?_
      have := k0.2
      omega
    · have h1 : B a 1 4095 := R_neL ha (by decide : B 0 0 0) q2 (by decide)
      obtain ⟨g1, g2, g3⟩ := gr_of h1
      have gb : ¬ a >>> (z_gr a &&& 31) &&& 1 = 0 := by
        rcases gr_bit a with z | z
        · rw [z] at g1; exact absurd g1 (by decide)
        · exact z
      have g4 := g1.1
      have g5 := g1.2
      have eg := g1.nI_eq
      have hz := s_in_at h (z_gr a).toInt.toNat (by omega) (by rw [← eg]; exact gb)
      rw [← eg] at hz
      have nb := (B.sub hn (by decide : B 1 1 1) (by decide) (by decide)).1
      have q5 := z_wi_B (by decide : B 0 0 0) nb hz
      have q6 := (B.add g1 k0 (by decide) (by decide)).2
      have q7 := q5.2
      rw [q6] at q7
      refine B.shl (g := (z_gr a).toInt.toNat) hx.1 (by omega) k0 ?_
      rw [Int.toNat_of_nonneg g4]
      omega
theorem s_mor_B {h : Hp} {n : Nat} (hc : ∀ i, B (h 74 i) 0 4095) : ∀ m, B (s_mor h n m) 0 4095
  | 0 => by unfold s_mor; decide
  | m + 1 => by
    unfold s_mor
    exact B.or 12 (s_mor_B hc m) (hc _) (by decide) (by decide) (by decide) (by decide) (by decide)
theorem s_mor_sub {h : Hp} {n : Nat} : ∀ m i, i < m → h 74 (24 * n + i) &&& s_mor h n m = h 74 (24 * n + i)
  | 0, i, hi => absurd hi (Nat.not_lt_zero i)
  | m + 1, i, hi => by
    unfold s_mor
    by_cases e : i = m
    · subst e; exact and_or_self _ _
    · exact and_or_sub (s_mor_sub m i (by omega))
/-- the model's tune t goes in key k -/
def KM (h : Hp) (t k : Int32) : Prop := ∀ i : Nat, (i : Int) < (h 73 t.toNatClampNeg).toInt → B (z_mv (h 74 (24 * t.toNatClampNeg + i)) k) 0 4095
/-- each beat before i that sounds has its cell -/
def IXP (h : Hp) (t k f i : Int32) : Prop := ∀ j : Nat, (j : Int) < i.toInt → ¬ h 74 (24 * t.toNatClampNeg + j) = 0 → 0 ≤ f.toInt + j ∧ f.toInt + j < (h 93 k.toNatClampNeg).toInt

set_option maxRecDepth 100000 in
set_option maxHeartbeats 4000000 in
theorem l_misIn (L : Nat) (b : Bool) (h : Hp) (q a k : Int32) (N : Nat) (hN : N = 12)  : ∀ t i : Nat, i + t = N → EvQ mi_X10_isIn 12 [some (.ref 63), some (.int q), some (.int k), some (.int a), some (.int (s_in a k (h 63 5 - 1) i)), some (.int (nI i))] [] (G0 L b) h 0 0 (fun v G' h' => v = some (.int (s_in a k (h 63 5 - 1) N)) ∧ G' = G0 L b ∧ h' = h) := by
  intro t
  induction t with
  | zero =>
    intro i hi
    have hi2 : i = N := by omega
    subst hi2
    refine ev_iload rfl rfl rfl ?_
    refine ev_bipush (v := 12) rfl rfl (by decide) ?_
    refine ev_icmp_ge rfl rfl (fun c_16 => ?_) (fun z_ => absurd (by rw [hN]; decide) z_)
    refine ev_iload rfl rfl rfl ?_
    exact ev_iret rfl rfl ((ev_z01 (s_in_01 _ _ _ _).z01).1) (⟨rfl, rfl, rfl⟩)
  | succ t ih =>
    intro i hi
    refine ev_iload rfl rfl rfl ?_
    refine ev_bipush (v := 12) rfl rfl (by decide) ?_
    refine ev_icmp_ge rfl rfl (fun z_ => absurd z_ (by rw [show (12 : Int32) = nI 12 from rfl]; exact nI_ge (by omega) (by omega))) (fun c_16 => ?_)
    refine ev_iload rfl rfl rfl ?_
    refine ev_if_eq rfl rfl (fun c_21 => ?_) (fun c_21 => ?_)
    · refine ev_iconst (v := 0) rfl rfl (by decide) ?_
      refine ev_istore rfl rfl rfl rfl ?_
      dsimp only [List.set]
      refine ev_iinc (y := 1) rfl rfl rfl (by decide) rfl rfl ?_
      dsimp only [List.set]
      refine ev_goto rfl rfl ?_
      have z_ := ih (i + 1) (by omega)
      simp only [s_in, if_neg c_16, if_pos c_21] at z_
      rw [nI_1 i]
      exact z_
    · refine ev_iload_n rfl rfl rfl ?_
      refine ev_iload rfl rfl rfl ?_
      refine ev_ishr rfl rfl ?_
      refine ev_iconst (v := 1) rfl rfl (by decide) ?_
      refine ev_iand rfl rfl ?_
      refine ev_if_eq rfl rfl (fun c_30 => ?_) (fun c_30 => ?_)
      · refine ev_iconst (v := 1) rfl rfl (by decide) ?_
        refine ev_goto rfl rfl ?_
        refine ev_istore rfl rfl rfl rfl ?_
        dsimp only [List.set]
        refine ev_iinc (y := 1) rfl rfl rfl (by decide) rfl rfl ?_
        dsimp only [List.set]
        refine ev_goto rfl rfl ?_
        have z_ := ih (i + 1) (by omega)
        simp only [s_in, if_neg c_16, if_neg c_21, if_pos c_30] at z_
        rw [nI_1 i]
        exact z_
      · refine ev_aload_n rfl rfl rfl ?_
        refine ev_iload rfl rfl rfl ?_
        refine ev_iload_n rfl rfl rfl ?_
        refine ev_iadd rfl rfl ?_
        refine ev_V1D rfl rfl lk_X10_169 vt_X10_isWhistle rfl rfl rfl rfl rfl (c_misW _ _ _ _) ?_
        refine ev_if_eq rfl rfl (fun c_41 => ?_) (fun c_41 => ?_)
        · refine ev_iconst (v := 0) rfl rfl (by decide) ?_
          refine ev_istore rfl rfl rfl rfl ?_
          dsimp only [List.set]
          refine ev_iinc (y := 1) rfl rfl rfl (by decide) rfl rfl ?_
          dsimp only [List.set]
          refine ev_goto rfl rfl ?_
          have z_ := ih (i + 1) (by omega)
          simp only [s_in, if_neg c_16, if_neg c_21, if_neg c_30, if_pos c_41] at z_
          rw [nI_1 i]
          exact z_
        · refine ev_iconst (v := 1) rfl rfl (by decide) ?_
          refine ev_goto rfl rfl ?_
          refine ev_istore rfl rfl rfl rfl ?_
          dsimp only [List.set]
          refine ev_iinc (y := 1) rfl rfl rfl (by decide) rfl rfl ?_
          dsimp only [List.set]
          refine ev_goto rfl rfl ?_
          have z_ := ih (i + 1) (by omega)
          simp only [s_in, if_neg c_16, if_neg c_21, if_neg c_30, if_neg c_41] at z_
          rw [nI_1 i]
          exact z_

set_option maxRecDepth 100000 in
set_option maxHeartbeats 4000000 in
theorem c_misIn (L : Nat) (b : Bool) (h : Hp) (n : Nat) (hn : n < 6) (m : Nat) (hm0 : m ≤ 24) (hm : h 73 n = nI m) (k : Int32) : EvD mi_X10_isIn [.ref 63, .int (nI n), .int k] (G0 L b) h (s_in (s_mor h n m) k (h 63 5 - 1) 12) (h) := by
  refine EvD.of (lo := [some (.ref 63), some (.int (nI n)), some (.int k), none, none, none]) pf_X10_isIn ok_X10_isIn rfl rfl ?_
  refine ev_aload_n rfl rfl rfl ?_
  refine ev_iload_n rfl rfl rfl ?_
  refine ev_V1D rfl rfl lk_X10_273 vt_X10_allOf rfl rfl rfl rfl rfl (c_mallOf _ _ _ n hn m hm0 hm) ?_
  refine ev_istore_n rfl rfl rfl rfl ?_
  dsimp only [List.set]
  refine ev_iconst (v := 1) rfl rfl (by decide) ?_
  refine ev_istore rfl rfl rfl rfl ?_
  dsimp only [List.set]
  refine ev_iconst (v := 0) rfl rfl (by decide) ?_
  refine ev_istore rfl rfl rfl rfl ?_
  dsimp only [List.set]
  exact l_misIn L b h (nI n) (s_mor h n m) k 12 rfl 12 0 (by omega)

set_option maxRecDepth 100000 in
set_option maxHeartbeats 4000000 in
theorem l_mlow (G : Geo) (h : Hp) (x : Int32) (z : Nat) (hz11 : z ≤ 11) (hz : ¬ x >>> (nI z &&& 31) &&& 1 = 0) : ∀ t i : Nat, i + t = z → EvQ mi_X10_lowest 2 [some (.int x), some (.int (nI i))] [] G h 0 0 (QP (fun r => B r 0 11) G h) := by
  intro t
  induction t with
  | zero =>
    intro i hi
    have hi2 : i = z := by omega
    subst hi2
    have hb : B (nI i) 0 11 := by
      unfold B
      rw [nI_toInt (show i < 2 ^ 31 by omega)]
      omega
    refine ev_iload_n rfl rfl rfl ?_
    refine ev_iload_n rfl rfl rfl ?_
    refine ev_ishr rfl rfl ?_
    refine ev_iconst (v := 1) rfl rfl (by decide) ?_
    refine ev_iand rfl rfl ?_
    refine ev_if_ne rfl rfl (fun c_7 => ?_) (fun z_ => absurd z_ hz)
    refine ev_iload_n rfl rfl rfl ?_
    exact ev_iret rfl rfl rfl (⟨⟨_, rfl, hb⟩, rfl, rfl⟩)
  | succ t ih =>
    intro i hi
    have hb : B (nI i) 0 11 := by
      unfold B
      rw [nI_toInt (show i < 2 ^ 31 by omega)]
      omega
    refine ev_iload_n rfl rfl rfl ?_
    refine ev_iload_n rfl rfl rfl ?_
    refine ev_ishr rfl rfl ?_
    refine ev_iconst (v := 1) rfl rfl (by decide) ?_
    refine ev_iand rfl rfl ?_
    refine ev_if_ne rfl rfl (fun c_7 => ?_) (fun c_7 => ?_)
    · refine ev_iload_n rfl rfl rfl ?_
      exact ev_iret rfl rfl rfl (⟨⟨_, rfl, hb⟩, rfl, rfl⟩)
    · refine ev_iinc (y := 1) rfl rfl rfl (by decide) rfl rfl ?_
      dsimp only [List.set]
      refine ev_goto rfl rfl ?_
      rw [show nI i + 1 = nI (i + 1) from nI_add i 1]
      exact ih (i + 1) (by omega)
theorem w_lowestK (G : Geo) (h : Hp) (x : Int32) (px : B x 1 4095) : EvP mi_X10_lowest [.int x] G h (fun r => B r 0 11) := by
  obtain ⟨g1, g2, g3⟩ := gr_of px
  have gb : ¬ x >>> (z_gr x &&& 31) &&& 1 = 0 := by
    rcases gr_bit x with z | z
    · rw [z] at g1; exact absurd g1 (by decide)
    · exact z
  have g4 := g1.1
  have g5 := g1.2
  refine EvM.of2 (lo := [some (.int x), none]) pf_X10_lowest ok_X10_lowest rfl rfl ?_
  refine ev_iconst (v := 0) rfl rfl (by decide) ?_
  refine ev_istore_n rfl rfl rfl rfl ?_
  dsimp only [List.set]
  exact l_mlow G h x (z_gr x).toInt.toNat (by omega) (by rw [← g1.nI_eq]; exact gb) (z_gr x).toInt.toNat 0 (by omega)

theorem B.nat6 {t : Int32} (pt : B t 0 5) : ∃ n : Nat, n < 6 ∧ t = nI n ∧ t.toNatClampNeg = n := by
  have e := pt.nat
  have := pt.2
  exact ⟨t.toNatClampNeg, by omega, e.1, rfl⟩
theorem w_isInK (L : Nat) (b : Bool) (h : Hp) (hB : Bx h) (t k : Int32) (pt : B t 0 5) : EvP mi_X10_isIn [.ref 63, .int t, .int k] (G0 L b) h (fun r => B r 0 1 ∧ (¬ r = 0 → B k (-11) 11 → KM h t k)) := by
  obtain ⟨n, hn, e1, e2⟩ := pt.nat6
  have p73 : B (h 73 n) 0 24 := hB 73 n
  obtain ⟨m, f1, f2⟩ : ∃ m : Nat, h 73 n = nI m ∧ (m : Int) = (h 73 n).toInt := ⟨_, p73.nat⟩
  have hm : m ≤ 24 := by have := p73.2; omega
  have pw : B (h 63 5) 0 12 := hB 63 5
  rw [e1]
  refine (c_misIn L b h n hn m hm f1 k).p ⟨s_in_01 _ _ _ _, fun q pk i hi => ?_⟩
  rw [nI_clamp (show n < 2 ^ 31 by omega)] at hi ⊢
  exact mv_BM (hB 74 _) (s_mor_B (fun i => hB 74 i) m) (s_mor_sub m i (by omega)) pk pw q
/-- the chord of beat i, moved -/
theorem w_chordAtK (L : Nat) (b : Bool) (h : Hp) (hB : Bx h) (t i : Int32) (pt : B t 0 5) (pi : B i 0 23) : EvP mi_X10_chordAt [.ref 63, .int t, .int i] (G0 L b) h (fun r => B r 0 4095 ∧ r = h 74 (24 * t.toNatClampNeg + i.toNatClampNeg)) := by
  obtain ⟨n, hn, e1, e2⟩ := pt.nat6
  obtain ⟨j, f1, f2⟩ : ∃ j : Nat, i = nI j ∧ (j : Int) = i.toInt := ⟨_, pi.nat⟩
  have hj : j < 24 := by have := pi.2; omega
  rw [e1, f1]
  refine (c_mchordAt L b h n hn j hj).p ⟨hB 74 _, ?_⟩
  rw [nI_clamp (show n < 2 ^ 31 by omega), nI_clamp (show j < 2 ^ 31 by omega)]
theorem z_mv_0 (k : Int32) : z_mv 0 k = 0 := by
  unfold z_mv
  split <;> simp
theorem KM.at {h h1 : Hp} {t k i x : Int32} (hK : KM h t k) (hi : i.toInt < (h 73 t.toNatClampNeg).toInt) (pi : B i 0 23) (e : x = h1 74 (24 * t.toNatClampNeg + i.toNatClampNeg)) (e1 : h1 74 (24 * t.toNatClampNeg + i.toNatClampNeg) = h 74 (24 * t.toNatClampNeg + i.toNatClampNeg)) : B (z_mv x k) 0 4095 := by
  rw [e, e1]
  exact hK _ (by have := pi.nat.2; omega)
theorem w_movedK (L : Nat) (b : Bool) (h h0 h1 : Hp) (x k t i f s : Int32) (hK : KM h0 t k) (hI : IXP h0 t s f (h0 73 t.toNatClampNeg)) (ps : B (h0 93 s.toNatClampNeg) 0 60) (hi : i.toInt < (h0 73 t.toNatClampNeg).toInt) (pi : B i 0 23) (e : x = h1 74 (24 * t.toNatClampNeg + i.toNatClampNeg)) (e1 : h1 74 (24 * t.toNatClampNeg + i.toNatClampNeg) = h0 74 (24 * t.toNatClampNeg + i.toNatClampNeg)) :
    EvP mi_X10_moved [.ref 63, .int x, .int k] (G0 L b) h (fun r => B r 0 4095 ∧ (¬ r.toInt = 0 → 0 ≤ f.toInt + i.toInt ∧ f.toInt + i.toInt ≤ 59)) := by
  refine (c_mmoved L b h x k).p ⟨?_, fun q => ?_⟩
  · rw [z_mv2_eq]
    exact hK.at hi pi e e1
  · have e0 : (0 : Int32).toInt = 0 := by decide
    have hx : ¬ x = 0 := fun z => q (by rw [z_mv2_eq, z, z_mv_0]; exact e0)
    have en := pi.nat.2
    have := hI i.toNatClampNeg (by omega) (by rw [← e1, ← e]; exact hx)
    have := ps.2
    omega
theorem IXP.zero (h : Hp) (t k f : Int32) : IXP h t k f 0 := fun j hj => by
  have e0 : (0 : Int32).toInt = 0 := by decide
  omega
theorem IXP.step {h : Hp} {t k f i i' : Int32} (hI : IXP h t k f i) (pi : B i 0 23) (e : i'.toInt = i.toInt + 1) (hx : ¬ h 74 (24 * t.toNatClampNeg + i.toNatClampNeg) = 0 → 0 ≤ f.toInt + i.toInt ∧ f.toInt + i.toInt < (h 93 k.toNatClampNeg).toInt) : IXP h t k f i' := fun j hj => by
  have en := pi.nat.2
  by_cases q : j = i.toNatClampNeg
  · subst q
    rw [en]
    exact hx
  · exact hI j (by omega)
theorem IXP.all {h : Hp} {t k f i : Int32} (hI : IXP h t k f i) (hi : (h 73 t.toNatClampNeg).toInt ≤ i.toInt) : IXP h t k f (h 73 t.toNatClampNeg) := fun j hj => hI j (by omega)
theorem KM.keep {W : List (Nat × Nat)} {h h1 : Hp} {t k : Int32} (hK : KM h t k) (hJ : JW W h h1) (h73 : ∀ j, wm W 73 j = false) (h74 : ∀ j, wm W 74 j = false) : KM h1 t k := fun i hi => by
  rw [hJ.2 _ _ (h73 _)] at hi
  rw [hJ.2 _ _ (h74 _)]
  exact hK i hi
theorem IXP.keep {W : List (Nat × Nat)} {h h1 : Hp} {t k f : Int32} (hI : IXP h t k f (h 73 t.toNatClampNeg)) (hJ : JW W h h1) (h73 : ∀ j, wm W 73 j = false) (h74 : ∀ j, wm W 74 j = false) (h93 : ∀ j, wm W 93 j = false) : IXP h1 t k f (h1 73 t.toNatClampNeg) := fun j hj => by
  rw [hJ.2 _ _ (h73 _)] at hj
  rw [hJ.2 _ _ (h74 _), hJ.2 _ _ (h93 _)]
  exact hI j hj
theorem w_inIX (L : Nat) (b : Bool) (h : Hp) (f i s v : Int32) (e : v.toInt = s.toInt - 1) : EvP mi_X10_in [.long (f.toInt64 + i.toInt64), .long 0, .long v.toInt64] (G0 L b) h (fun r => B r 0 1 ∧ (¬ r = 0 → 0 ≤ f.toInt + i.toInt ∧ f.toInt + i.toInt < s.toInt)) := by
  refine (c_in (G0 L b) h _ _ _).p ⟨z_in_01 _ _ _, fun q => ?_⟩
  have z := z_in_le q
  have z1 := Int32.toInt_toInt64 f
  have z2 := Int32.toInt_toInt64 i
  have z3 := Int32.toInt_toInt64 v
  have z4 := B.any f
  have z5 := B.any i
  have z6 := l_add f.toInt64 i.toInt64 (by omega) (by omega) (by omega) (by omega)
  have z7 := l_lits
  omega

