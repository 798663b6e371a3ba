set_option maxRecDepth 100000 in
set_option maxHeartbeats 4000000 in
theorem l_low (G : Geo) (h : Hp) (c : Int32) (l : Nat) (b1 : c >>> (nI l &&& 31) &&& 1 = 1) (b0 : ∀ i, i < l → c >>> (nI i &&& 31) &&& 1 = 0) : ∀ t i : Nat, i + t = l → EvQ mi_X10_lowest 2 [some (.int c), some (.int (nI i))] [] G h 0 0 (fun v G' h' => v = some (.int (nI l)) ∧ G' = G ∧ h' = h) := by
  intro t
  induction t with
  | zero =>
    intro i hi
    have hi2 : i = l := by omega
    subst hi2
    refine ev_iload_n rfl rfl rfl ?_
    refine ev_iload_n rfl rfl rfl ?_
    refine ev_ishr rfl rfl ?_
    refine ev_iconst (v := 1) rfl rfl (by decide) ?_
    refine ev_iand rfl rfl ?_
    refine ev_if_ne rfl rfl (fun c_7 => ?_) (fun z_ => absurd z_ (by rw [b1]; decide))
    refine ev_iload_n rfl rfl rfl ?_
    exact ev_iret rfl rfl rfl (⟨rfl, rfl, rfl⟩)
  | succ t ih =>
    intro i hi
    refine ev_iload_n rfl rfl rfl ?_
    refine ev_iload_n rfl rfl rfl ?_
    refine ev_ishr rfl rfl ?_
    refine ev_iconst (v := 1) rfl rfl (by decide) ?_
    refine ev_iand rfl rfl ?_
    refine ev_if_ne rfl rfl (fun z_ => absurd (b0 i (by omega)) z_) (fun c_7 => ?_)
    refine ev_iinc (y := 1) rfl rfl rfl (by decide) rfl rfl ?_
    dsimp only [List.set]
    refine ev_goto rfl rfl ?_
    rw [nI_1 i]
    exact ih (i + 1) (by omega)

theorem lw_bits {c : Int32} (h : B c 0 4095) (h0 : ¬ c = 0) : c >>> (nI (lw c) &&& 31) &&& 1 = 1 ∧ ∀ i, i < lw c → c >>> (nI i &&& 31) &&& 1 = 0 := by
  obtain ⟨l, g, hl, hg, el, eg, bl, bg, bw⟩ := gs_of h h0
  have e : lw c = l := by unfold lw; rw [el]; exact nI_clamp (by omega)
  rw [e]
  refine ⟨bl, fun i hi => Decidable.byContradiction (fun z => ?_)⟩
  have := (bw i (by omega) z).1
  omega

set_option maxRecDepth 100000 in
set_option maxHeartbeats 4000000 in
theorem c_low (G : Geo) (h : Hp) (c : Int32) (hc : B c 0 4095) (h0 : ¬ c = 0) : EvD mi_X10_lowest [.int c] G h (nI (lw c)) (h) := by
  refine EvD.of (lo := [some (.int c), none]) pf_X10_lowest ok_X10_lowest rfl rfl ?_
  refine ev_iconst (v := 0) rfl rfl (by decide) ?_
  refine ev_istore_n rfl rfl rfl rfl ?_
  dsimp only [List.set]
  exact l_low G h c (lw c) (lw_bits hc h0).1 (lw_bits hc h0).2 (lw c) 0 (by omega)

def s_dw (h : Hp) (c l : Int32) : Nat → Int32
  | 0 => 0
  | k + 1 => if c >>> (nI k &&& 31) &&& 1 = 1 then s_dw h c l k + h 65 k else if nI k = l then s_dw h c l k + h 65 k / 2 else s_dw h c l k + 0

set_option maxRecDepth 100000 in
set_option maxHeartbeats 4000000 in
theorem l_dw (L : Nat) (b : Bool) (h : Hp) (m : Nat) (hm0 : m ≤ 12) (hm : h 63 5 = nI m) (c l : Int32)  : ∀ t i : Nat, i + t = m → EvQ mi_X10_drawnWith 5 [some (.ref 63), some (.int c), some (.int l), some (.int (s_dw h c l i)), some (.int (nI i))] [] (G0 L b) h 0 0 (fun v G' h' => v = some (.int (s_dw h c l m)) ∧ G' = G0 L b ∧ h' = h) := by
  intro t
  induction t with
  | zero =>
    intro i hi
    have hi2 : i = m := by omega
    subst hi2
    refine ev_iload rfl rfl rfl ?_
    refine ev_aload_n rfl rfl rfl ?_
    refine ev_getI rfl rfl fl_X10_121 rfl rfl rfl ?_
    refine ev_icmp_ge rfl rfl (fun c_11 => ?_) (fun z_ => absurd (by rw [hm]; exact Int32.le_refl _) z_)
    refine ev_iload_n rfl rfl rfl ?_
    exact ev_iret rfl rfl rfl (⟨rfl, rfl, rfl⟩)
  | succ t ih =>
    intro i hi
    refine ev_iload rfl rfl rfl ?_
    refine ev_aload_n rfl rfl rfl ?_
    refine ev_getI rfl rfl fl_X10_121 rfl rfl rfl ?_
    refine ev_icmp_ge rfl rfl (fun z_ => absurd z_ (by rw [hm]; exact nI_ge (by omega) (by omega))) (fun c_11 => ?_)
    refine ev_iload_n rfl rfl rfl ?_
    refine ev_iload_n rfl rfl rfl ?_
    refine ev_iload rfl rfl rfl ?_
    refine ev_ishr rfl rfl ?_
    refine ev_iconst (v := 1) rfl rfl (by decide) ?_
    refine ev_iand rfl rfl ?_
    refine ev_iconst (v := 1) rfl rfl (by decide) ?_
    refine ev_icmp_ne rfl rfl (fun c_22 => ?_) (fun c_22 => ?_)
    · refine ev_iload rfl rfl rfl ?_
      refine ev_iload_n rfl rfl rfl ?_
      refine ev_icmp_ne rfl rfl (fun c_38 => ?_) (fun c_38 => ?_)
      · refine ev_iconst (v := 0) rfl rfl (by decide) ?_
        refine ev_iadd rfl rfl ?_
        refine ev_istore_n rfl rfl rfl rfl ?_
        dsimp only [List.set]
        refine ev_iinc (y := 1) rfl rfl rfl (by decide) rfl rfl ?_
        dsimp only [List.set]
        refine ev_goto rfl rfl ?_
        have z_ := ih (i + 1) (by omega)
        simp only [s_dw, if_neg c_11, if_neg c_22, if_neg c_38] at z_
        rw [nI_1 i]
        exact z_
      · refine ev_aload_n rfl rfl rfl ?_
        refine ev_getR rfl rfl fl_X10_26 rfl rfl rfl rfl ?_
        refine ev_iload rfl rfl rfl ?_
        refine ev_iald rfl rfl rfl (vp_in_nI (by omega) (by decide)) (nI_clamp (by omega)) ?_
        refine ev_iconst (v := 2) rfl rfl (by decide) ?_
        refine ev_idiv rfl rfl (by decide) ?_
        refine ev_goto rfl rfl ?_
        refine ev_iadd rfl rfl ?_
        refine ev_istore_n rfl rfl rfl rfl ?_
        dsimp only [List.set]
        refine ev_iinc (y := 1) rfl rfl rfl (by decide) rfl rfl ?_
        dsimp only [List.set]
        refine ev_goto rfl rfl ?_
        have z_ := ih (i + 1) (by omega)
        simp only [s_dw, if_neg c_11, if_neg c_22, if_pos c_38] at z_
        rw [nI_1 i]
        exact z_
    · refine ev_aload_n rfl rfl rfl ?_
      refine ev_getR rfl rfl fl_X10_26 rfl rfl rfl rfl ?_
      refine ev_iload rfl rfl rfl ?_
      refine ev_iald rfl rfl rfl (vp_in_nI (by omega) (by decide)) (nI_clamp (by omega)) ?_
      refine ev_goto rfl rfl ?_
      refine ev_iadd rfl rfl ?_
      refine ev_istore_n rfl rfl rfl rfl ?_
      dsimp only [List.set]
      refine ev_iinc (y := 1) rfl rfl rfl (by decide) rfl rfl ?_
      dsimp only [List.set]
      refine ev_goto rfl rfl ?_
      have z_ := ih (i + 1) (by omega)
      simp only [s_dw, if_neg c_11, if_pos c_22] at z_
      rw [nI_1 i]
      exact z_

set_option maxRecDepth 100000 in
set_option maxHeartbeats 4000000 in
theorem c_dw (L : Nat) (b : Bool) (h : Hp) (m : Nat) (hm0 : m ≤ 12) (hm : h 63 5 = nI m) (c l : Int32) : EvD mi_X10_drawnWith [.ref 63, .int c, .int l] (G0 L b) h (s_dw h c l m) (h) := by
  refine EvD.of (lo := [some (.ref 63), some (.int c), some (.int l), none, none]) pf_X10_drawnWith ok_X10_drawnWith rfl rfl ?_
  refine ev_iconst (v := 0) rfl rfl (by decide) ?_
  refine ev_istore_n rfl rfl rfl rfl ?_
  dsimp only [List.set]
  refine ev_iconst (v := 0) rfl rfl (by decide) ?_
  refine ev_istore rfl rfl rfl rfl ?_
  dsimp only [List.set]
  exact l_dw L b h m hm0 hm c l m 0 (by omega)

def lkM (u : Nat) : Int32 := match u with
  | 0 => -4
  | j + 1 => nI j
theorem shl_bit {j k : Nat} (hj : j < 12) (hk : k < 12) : (1 : Int32) <<< (nI j &&& 31) >>> (nI k &&& 31) &&& 1 = if k = j then 1 else 0 := by
  rw [bit_get _ hk, shl_get hj hk]
  by_cases e : k = j
  · rw [if_pos e, decide_eq_true e]; rfl
  · rw [if_neg e, decide_eq_false e]; rfl
theorem dw_eq {h : Hp} (c : Int32) {u : Nat} (hu : u ≤ 12) : ∀ m, m ≤ 12 → (∀ w, w < m → RW1 h w) → s_drawn h c (lkE u) m = s_dw h c (lkM u) m
  | 0, _, _ => rfl
  | m + 1, hm, hW => by
    obtain ⟨-, z2, -, -, -, -, -, -⟩ := hW m (by omega)
    have ih := dw_eq c hu m (by omega) (fun w hw => hW w (by omega))
    have em := nI_toInt (show m < 2 ^ 31 by omega)
    unfold s_drawn s_dw
    rw [ih, z2]
    rcases bit_01 c (nI m &&& 31) with q | q
    · rw [if_pos q, if_neg (show ¬ c >>> (nI m &&& 31) &&& 1 = 1 by rw [q]; decide)]
      cases u with
      | zero =>
        have e4 : (-4 : Int32).toInt = -4 := by decide
        rw [if_pos (show lkE 0 >>> (nI m &&& 31) &&& 1 = 0 from bit0 m (by omega)), if_neg (show ¬ nI m = lkM 0 from fun z => by
          have y := congrArg Int32.toInt z
          rw [em, show (lkM 0).toInt = -4 from e4] at y
          omega), Int32.add_zero]
      | succ j =>
        have sb := shl_bit (show j < 12 by omega) (show m < 12 by omega)
        by_cases e : m = j
        · rw [if_neg (show ¬ lkE (j + 1) >>> (nI m &&& 31) &&& 1 = 0 from fun z => by
            have y := sb.symm.trans z
            rw [if_pos e] at y
            exact absurd y (by decide)), if_pos (show nI m = lkM (j + 1) by rw [e]; rfl)]
        · rw [if_pos (show lkE (j + 1) >>> (nI m &&& 31) &&& 1 = 0 from by
            have y := sb
            rw [if_neg e] at y
            exact y), if_neg (show ¬ nI m = lkM (j + 1) from fun z => e ((nI_eq (by omega) (by omega)).mp z)), Int32.add_zero]
    · rw [if_neg (show ¬ c >>> (nI m &&& 31) &&& 1 = 0 by rw [q]; decide), if_pos q]
theorem aft_eq {v y : Int32} (hv : 0 ≤ v.toInt) : z_min v (z_max 0 y) = if 0 ≤ y then (if y ≤ v then y else v) else 0 := by
  have e0 : (0 : Int32).toInt = 0 := by decide
  unfold z_min z_max
  by_cases c : 0 < y
  · have c1 := w_lt c
    rw [if_pos c, if_pos (Int32.le_of_lt c)]
    by_cases d : y < v
    · rw [if_pos d, if_pos (Int32.le_of_lt d)]
    · rw [if_neg d]
      by_cases e : y ≤ v
      · rw [if_pos e]; exact Int32.le_antisymm (Int32.not_lt.mp d) e
      · rw [if_neg e]
  · have c1 := w_nlt c
    rw [if_neg c]
    by_cases z : 0 ≤ y
    · have z1 := w_le z
      have ey : y = 0 := Int32.toInt_inj.mp (by omega)
      subst ey
      rw [if_pos z]
      by_cases d : 0 < v
      · rw [if_pos d, if_pos (Int32.le_of_lt d)]
      · have d1 := w_nlt d
        have ev : v = 0 := Int32.toInt_inj.mp (by omega)
        subst ev
        rw [if_neg d, if_pos z]
    · rw [if_neg z]
      by_cases d : 0 < v
      · rw [if_pos d]
      · have d1 := w_nlt d
        rw [if_neg d]
        exact Int32.toInt_inj.mp (by omega)
/-- the model's next pressure -/
def dM_ (h : Hp) (m : Nat) (l p c : Int32) : Int32 := zth h p (s_dw h c l m)
theorem dN_eq {h : Hp} (hB : Bx h) (hE : RE h) {u : Nat} (hu : u ≤ 12) : dN h (nW h) (lkE u) = dM_ h (nW h) (lkM u) := funext (fun p => funext (fun c => by
  obtain ⟨⟨b0, b1, b2, b3, b4⟩, hW, -⟩ := hE
  unfold dN dM_ zth
  rw [aft_eq (show B (h 2 3) 0 200 from hB 2 3).1, dw_eq c hu (nW h) (B.nI (u := 12) (hB 4 7)).2 hW.2.1, b2, b3]))

/-- the model's crack, as a long -/
def xL (h : Hp) (w : Nat) (p v : Int32) : Int64 := v.toInt64 - (h 64 w).toInt64 - (h 68 w).toInt64 - (z_dn (h 66 w * (p - 100)) 10).toInt64
theorem dn_B {x : Int32} (h1 : -2000 ≤ x.toInt) (h2 : x.toInt ≤ 2000) : -300 ≤ (z_dn x 10).toInt ∧ (z_dn x 10).toInt ≤ 300 := by
  rw [← fd10]
  obtain ⟨d1, d2⟩ := dv10 x
  have e1 : (1 : Int32).toInt = 1 := by decide
  have hd : -200 ≤ x.toInt.tdiv 10 ∧ x.toInt.tdiv 10 ≤ 200 := by
    rcases Int.le_total 0 x.toInt with q | q
    · rw [Int.tdiv_eq_ediv_of_nonneg q]
      omega
    · have e : x.toInt.tdiv 10 = -((-x.toInt) / 10) := by
        rw [← Int.tdiv_eq_ediv_of_nonneg (by omega : 0 ≤ -x.toInt), Int.neg_tdiv, Int.neg_neg]
      rw [e]
      omega
  have es := w_sub (x := x / 10) (y := 1) (by omega) (by omega)
  unfold z_fd
  repeat' split
  all_goals omega
theorem w_sub64 {x y : Int64} (h1 : -9223372036854775808 ≤ x.toInt - y.toInt) (h2 : x.toInt - y.toInt ≤ 9223372036854775807) : (x - y).toInt = x.toInt - y.toInt := by
  rw [Int64.toInt_sub]
  exact Int.bmod_eq_of_le (by omega) (by omega)
theorem xL_int {h : Hp} {w : Nat} {p v : Int32} (hp : B p 0 200) (h7 : B (h 66 w) 0 20) (h5 : B (h 64 w) 0 3600) (h9 : B (h 68 w) (-100) 100) : (xL h w p v).toInt = v.toInt - (h 64 w).toInt - (h 68 w).toInt - (z_dn (h 66 w * (p - 100)) 10).toInt ∧ -300 ≤ (z_dn (h 66 w * (p - 100)) 10).toInt ∧ (z_dn (h 66 w * (p - 100)) 10).toInt ≤ 300 := by
  have p1 := hp.1
  have p2 := hp.2
  have a1 := h7.1
  have a2 := h7.2
  have b1 := h5.1
  have b2 := h5.2
  have c1 := h9.1
  have c2 := h9.2
  have e100 : (100 : Int32).toInt = 100 := by decide
  have ep := w_sub (x := p) (y := 100) (by omega) (by omega)
  rw [e100] at ep
  have bm : -2000 ≤ (h 66 w).toInt * (p - 100).toInt ∧ (h 66 w).toInt * (p - 100).toInt ≤ 2000 := by
    rw [ep]
    have q1 : (h 66 w).toInt * (p.toInt - 100) ≤ 20 * 100 := Int.le_trans (Int.mul_le_mul_of_nonneg_left (by omega : p.toInt - 100 ≤ 100) a1) (Int.mul_le_mul_of_nonneg_right a2 (by decide))
    have q2 : -(20 * 100) ≤ (h 66 w).toInt * (p.toInt - 100) := by
      have q3 : (h 66 w).toInt * (100 - p.toInt) ≤ 20 * 100 := Int.le_trans (Int.mul_le_mul_of_nonneg_left (by omega : 100 - p.toInt ≤ 100) a1) (Int.mul_le_mul_of_nonneg_right a2 (by decide))
      have q4 : (h 66 w).toInt * (p.toInt - 100) = -((h 66 w).toInt * (100 - p.toInt)) := by rw [← Int.mul_neg]; congr 1; omega
      omega
    omega
  have em : (h 66 w * (p - 100)).toInt = (h 66 w).toInt * (p - 100).toInt := by
    rw [Int32.toInt_mul]
    exact Int.bmod_eq_of_le (by omega) (by omega)
  have bd := dn_B (x := h 66 w * (p - 100)) (by omega) (by omega)
  have v1 := Int32.le_toInt v
  have v2 := Int32.toInt_lt v
  refine ⟨?_, bd⟩
  unfold xL
  have s1 := w_sub64 (x := v.toInt64) (y := (h 64 w).toInt64) (by rw [Int32.toInt_toInt64, Int32.toInt_toInt64]; omega) (by rw [Int32.toInt_toInt64, Int32.toInt_toInt64]; omega)
  rw [Int32.toInt_toInt64, Int32.toInt_toInt64] at s1
  have s2 := w_sub64 (x := v.toInt64 - (h 64 w).toInt64) (y := (h 68 w).toInt64) (by rw [s1, Int32.toInt_toInt64]; omega) (by rw [s1, Int32.toInt_toInt64]; omega)
  rw [s1, Int32.toInt_toInt64] at s2
  rw [w_sub64 (by rw [s2, Int32.toInt_toInt64]; omega) (by rw [s2, Int32.toInt_toInt64]; omega), s2, Int32.toInt_toInt64]
/-- the class's crack is in its bounds just when the model's is, and then they are one -/
theorem x_in {h : Hp} {w : Nat} {p v : Int32} (hW : RW1 h w) (hp : B p 0 200) (h9 : B (h 9 w) (-100) 100) : (z_wi (xC h w p v) (-200) 200 = 0 ↔ z_in (xL h w p v) (-200) 200 = 0) ∧ (¬ z_in (xL h w p v) (-200) 200 = 0 → (xC h w p v).toInt = (xL h w p v).toInt ∧ (xL h w p v).toInt32 = xC h w p v) := by
  obtain ⟨z1, -, z3, -, z5, -, -, -, b7, b5⟩ := hW
  rw [z3] at b7
  rw [z1] at b5
  rw [z5] at h9
  obtain ⟨el, d1, d2⟩ := xL_int (v := v) hp b7 b5 h9
  have v1 := Int32.le_toInt v
  have v2 := Int32.toInt_lt v
  have n1 := b5.1
  have n2 := b5.2
  have s1 := h9.1
  have s2 := h9.2
  have ex : (xC h w p v).toInt = Int.bmod ((xL h w p v).toInt) (2 ^ 32) := by
    unfold xC o_bent
    rw [z1, z5, z3, fd10, el, Int32.toInt_sub, w_add (x := h 64 w + h 68 w) (by rw [w_add (by omega) (by omega)]; omega) (by rw [w_add (by omega) (by omega)]; omega), w_add (by omega) (by omega)]
    congr 1
    omega
  have e1 : (-200 : Int64).toInt = -200 := by decide
  have e2 : (200 : Int64).toInt = 200 := by decide
  have f1 : (-200 : Int32).toInt = -200 := by decide
  have f2 : (200 : Int32).toInt = 200 := by decide
  have inr : ¬ z_in (xL h w p v) (-200) 200 = 0 → -200 ≤ (xL h w p v).toInt ∧ (xL h w p v).toInt ≤ 200 := fun q => by
    have y := z_in_le q
    rw [e1, e2] at y
    exact y
  have eq : -200 ≤ (xL h w p v).toInt → (xL h w p v).toInt ≤ 200 → (xC h w p v).toInt = (xL h w p v).toInt := fun q1 q2 => by
    rw [ex]
    exact Int.bmod_eq_of_le (by omega) (by omega)
  refine ⟨⟨fun q => Decidable.byContradiction (fun y => ?_), fun q => Decidable.byContradiction (fun y => ?_)⟩, fun q => ?_⟩
  · obtain ⟨y1, y2⟩ := inr y
    have e := eq y1 y2
    have q' : z_wi (xC h w p v) (-200) 200 = 1 := by
      unfold z_wi
      rw [if_neg (fun z => by have := w_lt z; omega), if_neg (fun z => by have := w_lt z; omega)]
    rw [q'] at q
    exact absurd q (by decide)
  · have r := z_wi_B (by decide : B (-200) (-200) (-200)) (by decide : B 200 200 200) y
    have r1 := r.1
    have r2 := r.2
    rw [ex] at r1 r2
    have lb : -2147488000 ≤ (xL h w p v).toInt ∧ (xL h w p v).toInt ≤ 2147484500 := by omega
    have k : (xL h w p v).toInt = Int.bmod ((xL h w p v).toInt) (2 ^ 32) := by
      generalize (xL h w p v).toInt = X at *
      have := Int.bmod_def X (2 ^ 32)
      omega
    have q' : z_in (xL h w p v) (-200) 200 = 1 := by
      unfold z_in
      rw [if_neg (fun z => by
        rw [lg_cmp_lt, Int64.lt_iff_toInt_lt, e1] at z
        omega), if_neg (fun z => by
        rw [lg_cmp_gt, Int64.lt_iff_toInt_lt, e2] at z
        omega)]
    rw [q'] at q
    exact absurd q (by decide)
  · obtain ⟨y1, y2⟩ := inr q
    have e := eq y1 y2
    refine ⟨e, Int32.toInt_inj.mp ?_⟩
    rw [e, Int64.toInt_toInt32]
    exact Int.bmod_eq_of_le (by omega) (by omega)
def h_f2 (h : Hp) (n : Nat) : Hp := fun i j => if i = 85 ∧ j < n then 0 else if i = 86 ∧ j < n then 0 else h i j
theorem h_f2_0 (h : Hp) : h_f2 h 0 = h := by
  funext i j
  unfold h_f2
  rw [if_neg (fun q => Nat.not_lt_zero _ q.2), if_neg (fun q => Nat.not_lt_zero _ q.2)]
theorem h_f2_s (h : Hp) (n : Nat) : ev_set (ev_set (h_f2 h n) 86 n 0) 85 n 0 = h_f2 h (n + 1) := by
  funext i j
  unfold h_f2 ev_set
  by_cases e : i = 85
  · subst e
    by_cases e2 : j = n
    · subst e2; simp
    · by_cases e3 : j < n
      · simp [e2, e3, Nat.lt_succ_of_lt e3]
      · simp [e2, e3, show ¬ j < n + 1 by omega]
  · by_cases e1 : i = 86
    · subst e1
      by_cases e2 : j = n
      · subst e2; simp
      · by_cases e3 : j < n
        · simp [e2, e3, Nat.lt_succ_of_lt e3]
        · simp [e2, e3, show ¬ j < n + 1 by omega]
    · simp [e, e1]
theorem jw_f2 {h : Hp} (hB : Bx h) (n : Nat) : JW [(85, 999), (86, 999)] h (h_f2 h n) := by
  refine ⟨fun i j => ?_, fun i j q => ?_⟩
  · by_cases e : i = 85
    · subst e; exact B.any _
    · by_cases e1 : i = 86
      · subst e1; exact B.any _
      · unfold h_f2; rw [if_neg (fun q => e q.1), if_neg (fun q => e1 q.1)]; exact hB i j
  · by_cases e : i = 85
    · subst e; cases q
    · by_cases e1 : i = 86
      · subst e1; cases q
      · unfold h_f2; rw [if_neg (fun q => e q.1), if_neg (fun q => e1 q.1)]

set_option maxRecDepth 100000 in
set_option maxHeartbeats 4000000 in
theorem l_exi (L : Nat) (b : Bool) (h : Hp) (n s : Nat) (k p0 f lk : Int32) (Q : Pst) : ∀ t i : Nat, i + t = 12 → EvQ mi_X10_explains 32 [some (.ref 63), some (.int (nI n)), some (.int k), some (.int p0), some (.int (nI s)), some (.int f), some (.int lk), none, none, none, none, none, none, none] [] (G0 L b) (h_f2 h 12) 0 0 Q → EvQ mi_X10_explains 3 [some (.ref 63), some (.int (nI n)), some (.int k), some (.int p0), some (.int (nI s)), some (.int f), some (.int lk), some (.int (nI i)), none, none, none, none, none, none] [] (G0 L b) (h_f2 h i) 0 0 Q := by
  intro t
  induction t with
  | zero =>
    intro i hi kk
    have hi2 : i = 12 := by omega
    subst hi2
    refine ev_iload rfl rfl rfl ?_
    refine ev_bipush (v := 12) rfl rfl (by decide) ?_
    refine ev_icmp_ge rfl rfl (fun c_7 => ?_) (fun z_ => absurd (show nI 12 ≤ nI 12 from Int32.le_refl _) z_)
    exact EvQ.drop 7 kk
  | succ t ih =>
    intro i hi kk
    refine ev_iload rfl rfl rfl ?_
    refine ev_bipush (v := 12) rfl rfl (by decide) ?_
    refine ev_icmp_ge rfl rfl (fun z_ => absurd z_ (show ¬ nI 12 ≤ nI i from nI_ge (by omega) (by omega))) (fun c_7 => ?_)
    refine ev_aload_n rfl rfl rfl ?_
    refine ev_getR rfl rfl fl_X10_91 rfl rfl rfl rfl ?_
    refine ev_iload rfl rfl rfl ?_
    refine ev_iconst (v := 0) rfl rfl (by decide) ?_
    refine ev_zast rfl rfl rfl rfl (vp_in_nI (by omega) (by decide)) (nI_clamp (by omega)) (by decide) ?_
    refine ev_aload_n rfl rfl rfl ?_
    refine ev_getR rfl rfl fl_X10_88 rfl rfl rfl rfl ?_
    refine ev_iload rfl rfl rfl ?_
    refine ev_iconst (v := 0) rfl rfl (by decide) ?_
    refine ev_iast rfl rfl rfl rfl (vp_in_nI (by omega) (by decide)) (nI_clamp (by omega)) ?_
    refine ev_iinc (y := 1) rfl rfl rfl (by decide) rfl rfl ?_
    dsimp only [List.set]
    refine ev_goto rfl rfl ?_
    rw [h_f2_s, nI_1 i]
    exact ih (i + 1) (by omega) kk

def XM (o : Option (Nat → Int32)) (r : Int32) (z : Nat → Int32) : Prop := (o = none → r = -4) ∧ ∀ tr, o = some tr → r = s_ct tr 12 ∧ ∀ w, w < 12 → z w = tr w
theorem XM.no {o : Option (Nat → Int32)} {z : Nat → Int32} (e : o = none) : XM o (-4) z := ⟨fun _ => rfl, fun tr h => by rw [e] at h; cases h⟩
theorem XM.yes {z tr : Nat → Int32} (e : ∀ w, w < 12 → z w = tr w) : XM (some tr) (s_ct z 12) z := ⟨fun h => (by cases h), fun t h => by cases h; exact ⟨s_ct_cg 12 e, e⟩⟩

theorem dw_cg {h h1 : Hp} (e : ∀ k, h1 65 k = h 65 k) (c l : Int32) : ∀ m, s_dw h1 c l m = s_dw h c l m
  | 0 => rfl
  | m + 1 => by unfold s_dw; rw [e m, dw_cg e c l m]

set_option maxRecDepth 100000 in
set_option maxHeartbeats 4000000 in
theorem m_tail (L : Nat) (b : Bool) (h : Hp) (hB : Bx h) (n : Nat) (hn : n < 6) (s : Nat) (hs : s < 4) (k p0 f lk : Int32) (M : Nat) (hM : M ≤ 24) (e73 : h 73 n = nI M) (c v : Nat → Int32) (ec : ∀ i, i < M → z_mv (h 74 (24 * n + i)) k = c i) (bc : ∀ i, i < M → B (c i) 0 4095) (ev1 : ∀ i, i < M → ¬ c i = 0 → ∃ x, x < 60 ∧ f + nI i = nI x ∧ h 94 (60 * s + x) = v i) (m : Nat) (hm0 : m ≤ 12) (hm : h 63 5 = nI m) (hw : ∀ i, i < M → ¬ c i = 0 → RW1 h (lw (c i)) ∧ B (h 9 (lw (c i))) (-100) 100) (H : Hp) (hJ : JW [(85, 999), (86, 999)] h H) (i : Nat) (hi : i < M) (p : Int32) (x10 x11 x12 x13 : Option Value) (Q : Pst) (kq : EvQ mi_X10_explains 38 [some (.ref 63), some (.int (nI n)), some (.int k), some (.int p0), some (.int (nI s)), some (.int f), some (.int lk), some (.int (dM_ h m lk p (c i))), some (.int (nI (i + 1))), none, none, none, none, none] [] (G0 L b) H 0 0 Q) : EvQ mi_X10_explains 209 [some (.ref 63), some (.int (nI n)), some (.int k), some (.int p0), some (.int (nI s)), some (.int f), some (.int lk), some (.int p), some (.int (nI i)), some (.int (c i)), x10, x11, x12, x13] [] (G0 L b) H 0 0 Q := by
  refine ev_aload_n rfl rfl rfl ?_
  refine ev_iload rfl rfl rfl ?_
  refine ev_aload_n rfl rfl rfl ?_
  refine ev_iload rfl rfl rfl ?_
  refine ev_iload rfl rfl rfl ?_
  refine ev_V2D rfl rfl lk_X10_332 vt_X10_drawnWith rfl rfl rfl rfl rfl (EvD.to (c_dw L b H m hm0 ((hJ.2 63 5 rfl).trans hm) (c i) lk) (dw_cg (fun k => hJ.2 65 k rfl) _ _ _) rfl) ?_
  refine ev_V2D rfl rfl lk_X10_297 vt_X10_then rfl rfl rfl rfl rfl (EvD.to (c_mthen L b H p _) (show _ = dM_ h m lk p (c i) from by unfold dM_ zth; rw [hJ.2 63 2 rfl, hJ.2 63 3 rfl]) rfl) ?_
  refine ev_istore rfl rfl rfl rfl ?_
  dsimp only [List.set]
  refine ev_iinc (y := 1) rfl rfl rfl (by decide) rfl rfl ?_
  dsimp only [List.set]
  refine ev_goto rfl rfl ?_
  rw [nI_1 i]
  exact EvQ.drop 13 (EvQ.drop 12 (EvQ.drop 11 (EvQ.drop 10 (EvQ.drop 9 kq))))

set_option maxRecDepth 100000 in
set_option maxHeartbeats 4000000 in
theorem l_mec (L : Nat) (b : Bool) (H : Hp) (a1 a2 a3 a4 a5 a6 : Option Value) (x7 : Int32) (a10 a11 a12 a13 : Option Value) : ∀ t i : Nat, i + t = 12 → EvQ mi_X10_explains 237 [some (.ref 63), a1, a2, a3, a4, a5, a6, some (.int x7), some (.int (s_ct (H 85) i)), some (.int (nI i)), a10, a11, a12, a13] [] (G0 L b) H 0 0 (fun v G' h' => v = some (.int (s_ct (H 85) 12)) ∧ G' = G0 L b ∧ h' = H) := by
  intro t
  induction t with
  | zero =>
    intro i hi
    have hi2 : i = 12 := by omega
    subst hi2
    refine ev_iload rfl rfl rfl ?_
    refine ev_bipush (v := 12) rfl rfl (by decide) ?_
    refine ev_icmp_ge rfl rfl (fun c_241 => ?_) (fun z_ => absurd (show nI 12 ≤ nI 12 from Int32.le_refl _) z_)
    refine ev_iload rfl rfl rfl ?_
    exact ev_iret rfl rfl rfl (⟨rfl, rfl, rfl⟩)
  | succ t ih =>
    intro i hi
    refine ev_iload rfl rfl rfl ?_
    refine ev_bipush (v := 12) rfl rfl (by decide) ?_
    refine ev_icmp_ge rfl rfl (fun z_ => absurd z_ (show ¬ nI 12 ≤ nI i from nI_ge (by omega) (by omega))) (fun c_241 => ?_)
    refine ev_iload rfl rfl rfl ?_
    refine ev_aload_n rfl rfl rfl ?_
    refine ev_getR rfl rfl fl_X10_88 rfl rfl rfl rfl ?_
    refine ev_iload rfl rfl rfl ?_
    refine ev_iald rfl rfl rfl (vp_in_nI (by omega) (by decide)) (nI_clamp (by omega)) ?_
    refine ev_if_ne rfl rfl (fun c_253 => ?_) (fun c_253 => ?_)
    · refine ev_iconst (v := 1) rfl rfl (by decide) ?_
      refine ev_iadd rfl rfl ?_
      refine ev_istore rfl rfl rfl rfl ?_
      dsimp only [List.set]
      refine ev_iinc (y := 1) rfl rfl rfl (by decide) rfl rfl ?_
      dsimp only [List.set]
      refine ev_goto rfl rfl ?_
      have z_ := ih (i + 1) (by omega)
      simp only [s_ct, if_neg c_241, if_neg c_253] at z_
      rw [nI_1 i]
      exact z_
    · refine ev_iconst (v := 0) rfl rfl (by decide) ?_
      refine ev_goto rfl rfl ?_
      refine ev_iadd rfl rfl ?_
      refine ev_istore rfl rfl rfl rfl ?_
      dsimp only [List.set]
      refine ev_iinc (y := 1) rfl rfl rfl (by decide) rfl rfl ?_
      dsimp only [List.set]
      refine ev_goto rfl rfl ?_
      have z_ := ih (i + 1) (by omega)
      simp only [s_ct, if_neg c_241, if_pos c_253] at z_
      rw [nI_1 i]
      exact z_

theorem xs_out {c v : Nat → Int32} {X : Nat → Int32 → Int32 → Int32} {N : Int32 → Int32 → Int32} {t i : Nat} {p : Int32} {kn : Nat → Bool} {tr : Nat → Int32} (h0 : ¬ c i = 0) (h1 : ¬ v i = -32768) (hz : z_wi (X (lw (c i)) p (v i)) (-200) 200 = 0) (hb : kn (lw (c i)) = true → B (tr (lw (c i))) (-200) 200) : xs c v X N (t + 1) i p kn tr = none := by
  cases hk : kn (lw (c i)) with
  | true =>
    refine xs_n3 h0 h1 hk (fun e => ?_)
    have b := hb hk
    have b1 := b.1
    have b2 := b.2
    have f1 : (-200 : Int32).toInt = -200 := by decide
    have f2 : (200 : Int32).toInt = 200 := by decide
    rw [← e] at hz
    unfold z_wi at hz
    rw [if_neg (fun z => by have := w_lt z; omega), if_neg (fun z => by have := w_lt z; omega)] at hz
    exact absurd hz (by decide)
  | false => exact xs_n4 h0 h1 hk hz

set_option maxRecDepth 100000 in
set_option maxHeartbeats 4000000 in
theorem l_mex (L : Nat) (b : Bool) (h : Hp) (hB : Bx h) (n : Nat) (hn : n < 6) (s : Nat) (hs : s < 4) (k p0 f lk : Int32) (M : Nat) (hM : M ≤ 24) (e73 : h 73 n = nI M) (c v : Nat → Int32) (ec : ∀ i, i < M → z_mv (h 74 (24 * n + i)) k = c i) (bc : ∀ i, i < M → B (c i) 0 4095) (ev1 : ∀ i, i < M → ¬ c i = 0 → ∃ x, x < 60 ∧ f + nI i = nI x ∧ h 94 (60 * s + x) = v i) (m : Nat) (hm0 : m ≤ 12) (hm : h 63 5 = nI m) (hw : ∀ i, i < M → ¬ c i = 0 → RW1 h (lw (c i)) ∧ B (h 9 (lw (c i))) (-100) 100) : ∀ (t i : Nat) (p : Int32) (kn : Nat → Bool) (tr : Nat → Int32) (H : Hp), i + t = M → JW [(85, 999), (86, 999)] h H → (∀ w, w < 12 → H 86 w = if kn w then 1 else 0) → (∀ w, w < 12 → H 85 w = tr w) → (∀ w, w < 12 → kn w = true → B (tr w) (-200) 200) → B p 0 200 → EvQ mi_X10_explains 38 [some (.ref 63), some (.int (nI n)), some (.int k), some (.int p0), some (.int (nI s)), some (.int f), some (.int lk), some (.int p), some (.int (nI i)), none, none, none, none, none] [] (G0 L b) H 0 0 (QI (fun r z => XM (xs c v (xC h) (dM_ h m lk) t i p kn tr) r (z 85)) [(85, 999), (86, 999)] (G0 L b) h) := by
  intro t
  induction t with
  | zero =>
    intro i p kn tr H hi hJ e86 e85 hb hp
    have hi2 : i = M := by omega
    subst hi2
    have e73H : H 73 n = nI i := (hJ.2 73 n rfl).trans e73
    refine ev_iload rfl rfl rfl ?_
    refine ev_aload_n rfl rfl rfl ?_
    refine ev_getR rfl rfl fl_X10_51 rfl rfl rfl rfl ?_
    refine ev_iload_n rfl rfl rfl ?_
    refine ev_iald rfl rfl rfl (vp_in_nI (by omega) (by decide)) (nI_clamp (by omega)) ?_
    try simp only [e73H]
    refine ev_icmp_ge rfl rfl (fun c_46 => ?_) (fun z_ => absurd (Int32.le_refl _) z_)
    refine ev_iconst (v := 0) rfl rfl (by decide) ?_
    refine ev_istore rfl rfl rfl rfl ?_
    dsimp only [List.set]
    refine ev_iconst (v := 0) rfl rfl (by decide) ?_
    refine ev_istore rfl rfl rfl rfl ?_
    dsimp only [List.set]
    refine EvQ.mono (l_mec L b H _ _ _ _ _ _ _ _ _ _ _ 12 0 (by omega)) (Nat.le_refl _) (Nat.le_refl _) (fun v_ G_ h_ q_ => ?_)
    obtain ⟨rfl, rfl, rfl⟩ := q_
    exact ⟨⟨_, rfl, XM.yes e85⟩, rfl, hJ⟩
  | succ t ih =>
    intro i p kn tr H hi hJ e86 e85 hb hp
    have e73H : H 73 n = nI M := (hJ.2 73 n rfl).trans e73
    refine ev_iload rfl rfl rfl ?_
    refine ev_aload_n rfl rfl rfl ?_
    refine ev_getR rfl rfl fl_X10_51 rfl rfl rfl rfl ?_
    refine ev_iload_n rfl rfl rfl ?_
    refine ev_iald rfl rfl rfl (vp_in_nI (by omega) (by decide)) (nI_clamp (by omega)) ?_
    first | simp only [e73H, e94, e64, e68, e66] | simp only [e73H] | skip
    refine ev_icmp_ge rfl rfl (fun z_ => absurd z_ (nI_ge (by omega) (by omega))) (fun c_46 => ?_)
    refine ev_aload_n rfl rfl rfl ?_
    refine ev_aload_n rfl rfl rfl ?_
    refine ev_iload_n rfl rfl rfl ?_
    refine ev_iload rfl rfl rfl ?_
    refine ev_V2D rfl rfl lk_X10_263 vt_X10_chordAt rfl rfl rfl rfl rfl (c_mchordAt L b H n hn i (by omega)) ?_
    refine ev_iload_n rfl rfl rfl ?_
    refine ev_V2D rfl rfl lk_X10_276 vt_X10_moved rfl rfl rfl rfl rfl (EvD.to (c_mmoved L b H _ k) (show z_mv2 (H 74 (24 * n + i)) k = c i from by rw [z_mv2_eq, hJ.2 74 _ rfl]; exact ec i (by omega)) rfl) ?_
    refine ev_istore rfl rfl rfl rfl ?_
    dsimp only [List.set]
    refine ev_iload rfl rfl rfl ?_
    refine ev_if_ne rfl rfl (fun c_65 => ?_) (fun c_65 => ?_)
    · obtain ⟨x, hx, ex, exv⟩ := ev1 i (by omega) c_65
      have ixe : (60 : Int32) * nI s + f + nI i = nI (60 * s + x) := by rw [Int32.add_assoc, ex, show (60 : Int32) * nI s = nI (60 * s) from nI_mul 60 s, nI_add]
      have e94 : H 94 (60 * s + x) = v i := (hJ.2 94 _ rfl).trans exv
      obtain ⟨el, hl⟩ := lw_of (bc i (by omega)) c_65
      have e64 : H 64 (lw (c i)) = h 64 (lw (c i)) := hJ.2 64 _ rfl
      have e68 : H 68 (lw (c i)) = h 68 (lw (c i)) := hJ.2 68 _ rfl
      have e66 : H 66 (lw (c i)) = h 66 (lw (c i)) := hJ.2 66 _ rfl
      refine ev_aload_n rfl rfl rfl ?_
      refine ev_getR rfl rfl fl_X10_118 rfl rfl rfl rfl ?_
      refine ev_bipush (v := 60) rfl rfl (by decide) ?_
      refine ev_iload rfl rfl rfl ?_
      refine ev_imul rfl rfl ?_
      refine ev_iload rfl rfl rfl ?_
      refine ev_iadd rfl rfl ?_
      refine ev_iload rfl rfl rfl ?_
      refine ev_iadd rfl rfl ?_
      refine ev_iald (j := 60 * s + x) rfl rfl rfl (by rw [ixe]; exact vp_in_nI (by omega) (by decide)) (by rw [ixe]; exact nI_clamp (by omega)) ?_
      first | simp only [e73H, e94, e64, e68, e66] | simp only [e73H] | skip
      refine ev_istore rfl rfl rfl rfl ?_
      dsimp only [List.set]
      refine ev_iload rfl rfl rfl ?_
      refine ev_sipush (v := (-32768)) rfl rfl (by decide) ?_
      refine ev_icmp_eq rfl rfl (fun c_97 => ?_) (fun c_97 => ?_)
      · rw [xs_s2 c_65 c_97]
        exact m_tail L b h hB n hn s hs k p0 f lk M hM e73 c v ec bc ev1 m hm0 hm hw H hJ i (by omega) p _ _ _ _ _ (ih (i + 1) _ kn tr H (by omega) hJ e86 e85 hb (zth_B (show B (h 63 3) 0 200 from hB 63 3) _ _).1)
      · refine ev_iload rfl rfl rfl ?_
        refine ev_S1D rfl rfl lk_X10_329 st_X10_lowest rfl rfl (c_low _ _ (c i) (bc i (by omega)) c_65) ?_
        refine ev_istore rfl rfl rfl rfl ?_
        dsimp only [List.set]
        refine ev_iload rfl rfl rfl ?_
        refine ev_i2l rfl rfl ?_
        refine ev_aload_n rfl rfl rfl ?_
        refine ev_getR rfl rfl fl_X10_22 rfl rfl rfl rfl ?_
        refine ev_iload rfl rfl rfl ?_
        refine ev_iald rfl rfl rfl (vp_in_nI (by omega) (by decide)) (nI_clamp (by omega)) ?_
        first | simp only [e73H, e94, e64, e68, e66] | simp only [e73H] | skip
        refine ev_i2l rfl rfl ?_
        refine ev_lsub rfl rfl ?_
        refine ev_aload_n rfl rfl rfl ?_
        refine ev_getR rfl rfl fl_X10_36 rfl rfl rfl rfl ?_
        refine ev_iload rfl rfl rfl ?_
        refine ev_iald rfl rfl rfl (vp_in_nI (by omega) (by decide)) (nI_clamp (by omega)) ?_
        first | simp only [e73H, e94, e64, e68, e66] | simp only [e73H] | skip
        refine ev_i2l rfl rfl ?_
        refine ev_lsub rfl rfl ?_
        refine ev_aload_n rfl rfl rfl ?_
        refine ev_getR rfl rfl fl_X10_29 rfl rfl rfl rfl ?_
        refine ev_iload rfl rfl rfl ?_
        refine ev_iald rfl rfl rfl (vp_in_nI (by omega) (by decide)) (nI_clamp (by omega)) ?_
        first | simp only [e73H, e94, e64, e68, e66] | simp only [e73H] | skip
        refine ev_iload rfl rfl rfl ?_
        refine ev_bipush (v := 100) rfl rfl (by decide) ?_
        refine ev_isub rfl rfl ?_
        refine ev_imul rfl rfl ?_
        refine ev_bipush (v := 10) rfl rfl (by decide) ?_
        refine ev_S2D rfl rfl lk_X10_149 st_X10_down rfl rfl (c_down _ _ _ _ (by decide)) ?_
        refine ev_i2l rfl rfl ?_
        refine ev_lsub rfl rfl ?_
        refine ev_lstore rfl rfl rfl rfl ?_
        dsimp only [List.set]
        refine ev_lload rfl rfl rfl ?_
        refine ev_ldc2 rfl rfl kc_X10_179 ?_
        refine ev_ldc2 rfl rfl kc_X10_143 ?_
        refine ev_S3D rfl rfl lk_X10_124 st_X10_in rfl rfl (EvD.to (c_in _ _ _ _ _) (show _ = z_in (xL h (lw (c i)) p (v i)) (-200) 200 from rfl) rfl) ?_
        refine ev_if_eq rfl rfl (fun c_161 => ?_) (fun c_161 => ?_)
        · refine ev_bipush (v := (-4)) rfl rfl (by decide) ?_
          exact ev_iret rfl rfl rfl (⟨⟨_, rfl, XM.no (xs_out c_65 c_97 ((x_in (v := v i) (hw i (by omega) c_65).1 hp (hw i (by omega) c_65).2).1.mpr c_161) (fun q_ => hb _ hl q_))⟩, rfl, hJ⟩)
        · have hJ2 : JW [(85, 999), (86, 999)] h (ev_set (ev_set H 85 (lw (c i)) (xL h (lw (c i)) p (v i)).toInt32) 86 (lw (c i)) 1) := (hJ.set rfl (B.any _)).set rfl (B.any _)
          have xe := (x_in (v := v i) (hw i (by omega) c_65).1 hp (hw i (by omega) c_65).2).2 c_161
          have e85w : H 85 (lw (c i)) = tr (lw (c i)) := e85 _ hl
          cases hk : kn (lw (c i)) with
          | true =>
            have e86w : H 86 (lw (c i)) = 1 := by rw [e86 _ hl, hk]; rfl
            refine ev_aload_n rfl rfl rfl ?_
            refine ev_getR rfl rfl fl_X10_91 rfl rfl rfl rfl ?_
            refine ev_iload rfl rfl rfl ?_
            refine ev_zald rfl rfl rfl (vp_in_nI (by omega) (by decide)) (nI_clamp (by omega)) ?_
            try simp only [e86w, e85w]
            refine ev_if_eq rfl rfl (fun z_ => absurd z_ (by decide)) (fun c_171 => ?_)
            refine ev_aload_n rfl rfl rfl ?_
            refine ev_getR rfl rfl fl_X10_88 rfl rfl rfl rfl ?_
            refine ev_iload rfl rfl rfl ?_
            refine ev_iald rfl rfl rfl (vp_in_nI (by omega) (by decide)) (nI_clamp (by omega)) ?_
            try simp only [e86w, e85w]
            refine ev_i2l rfl rfl ?_
            refine ev_lload rfl rfl rfl ?_
            refine ev_lcmp rfl rfl ?_
            refine ev_if_eq rfl rfl (fun c_185 => ?_) (fun c_185 => ?_)
            · refine ev_aload_n rfl rfl rfl ?_
              refine ev_getR rfl rfl fl_X10_88 rfl rfl rfl rfl ?_
              refine ev_iload rfl rfl rfl ?_
              refine ev_lload rfl rfl rfl ?_
              refine ev_l2i rfl rfl ?_
              refine ev_iast rfl rfl rfl rfl (vp_in_nI (by omega) (by decide)) (nI_clamp (by omega)) ?_
              refine ev_aload_n rfl rfl rfl ?_
              refine ev_getR rfl rfl fl_X10_91 rfl rfl rfl rfl ?_
              refine ev_iload rfl rfl rfl ?_
              refine ev_iconst (v := 1) rfl rfl (by decide) ?_
              refine ev_zast rfl rfl rfl rfl (vp_in_nI (by omega) (by decide)) (nI_clamp (by omega)) (by decide) ?_
              have he : tr (lw (c i)) = (xC h (lw (c i)) p (v i)) := by
                have y_ := (lg_cmp_eq _ _).mp c_185
                have y2_ := congrArg Int64.toInt y_
                rw [Int32.toInt_toInt64] at y2_
                exact Int32.toInt_inj.mp (y2_.trans xe.1.symm)
              rw [xs_s3 c_65 c_97 hk he]
              exact m_tail L b h hB n hn s hs k p0 f lk M hM e73 c v ec bc ev1 m hm0 hm hw (ev_set (ev_set H 85 (lw (c i)) (xL h (lw (c i)) p (v i)).toInt32) 86 (lw (c i)) 1) hJ2 i (by omega) p _ _ _ _ _ (ih (i + 1) _ kn tr (ev_set (ev_set H 85 (lw (c i)) (xL h (lw (c i)) p (v i)).toInt32) 86 (lw (c i)) 1) (by omega) hJ2 (fun w hw_ => by
                  rw [ev_sj]
                  by_cases e : w = (lw (c i))
                  · rw [if_pos e, e, hk]; rfl
                  · rw [if_neg e, ev_rd2 (by decide)]; exact e86 w hw_) (fun w hw_ => by
                  rw [ev_rd2 (by decide), ev_sj]
                  by_cases e : w = (lw (c i))
                  · rw [if_pos e, e, xe.2]; exact he.symm
                  · rw [if_neg e]; exact e85 w hw_) hb (zth_B (show B (h 63 3) 0 200 from hB 63 3) _ _).1)
            · refine ev_bipush (v := (-4)) rfl rfl (by decide) ?_
              exact ev_iret rfl rfl rfl (⟨⟨_, rfl, XM.no (xs_n3 c_65 c_97 hk (fun z_ => c_185 ((lg_cmp_eq _ _).mpr (Int64.toInt_inj.mp (by rw [Int32.toInt_toInt64, z_]; exact xe.1)))))⟩, rfl, hJ⟩)
          | false =>
            have e86w : H 86 (lw (c i)) = 0 := by rw [e86 _ hl, hk]; rfl
            refine ev_aload_n rfl rfl rfl ?_
            refine ev_getR rfl rfl fl_X10_91 rfl rfl rfl rfl ?_
            refine ev_iload rfl rfl rfl ?_
            refine ev_zald rfl rfl rfl (vp_in_nI (by omega) (by decide)) (nI_clamp (by omega)) ?_
            try simp only [e86w, e85w]
            refine ev_if_eq rfl rfl (fun c_171 => ?_) (fun z_ => absurd (by decide) z_)
            refine ev_aload_n rfl rfl rfl ?_
            refine ev_getR rfl rfl fl_X10_88 rfl rfl rfl rfl ?_
            refine ev_iload rfl rfl rfl ?_
            refine ev_lload rfl rfl rfl ?_
            refine ev_l2i rfl rfl ?_
            refine ev_iast rfl rfl rfl rfl (vp_in_nI (by omega) (by decide)) (nI_clamp (by omega)) ?_
            refine ev_aload_n rfl rfl rfl ?_
            refine ev_getR rfl rfl fl_X10_91 rfl rfl rfl rfl ?_
            refine ev_iload rfl rfl rfl ?_
            refine ev_iconst (v := 1) rfl rfl (by decide) ?_
            refine ev_zast rfl rfl rfl rfl (vp_in_nI (by omega) (by decide)) (nI_clamp (by omega)) (by decide) ?_
            rw [xs_s4 c_65 c_97 hk (fun z_ => c_161 ((x_in (v := v i) (hw i (by omega) c_65).1 hp (hw i (by omega) c_65).2).1.mp z_))]
            exact m_tail L b h hB n hn s hs k p0 f lk M hM e73 c v ec bc ev1 m hm0 hm hw (ev_set (ev_set H 85 (lw (c i)) (xL h (lw (c i)) p (v i)).toInt32) 86 (lw (c i)) 1) hJ2 i (by omega) p _ _ _ _ _ (ih (i + 1) _ _ _ (ev_set (ev_set H 85 (lw (c i)) (xL h (lw (c i)) p (v i)).toInt32) 86 (lw (c i)) 1) (by omega) hJ2 (fun w hw_ => by
                rw [ev_sj]
                by_cases e : w = (lw (c i))
                · simp only [e, if_true]
                · simp only [if_neg e]; rw [ev_rd2 (by decide)]; exact e86 w hw_) (fun w hw_ => by
                rw [ev_rd2 (by decide), ev_sj]
                by_cases e : w = (lw (c i))
                · simp only [e, if_true]; exact xe.2
                · simp only [if_neg e]; exact e85 w hw_) (fun w hw_ hk_ => by
                by_cases e : w = (lw (c i))
                · simp only [e, if_true]
                  exact z_wi_B (by decide : B (-200) (-200) (-200)) (by decide : B 200 200 200) (fun z_ => c_161 ((x_in (v := v i) (hw i (by omega) c_65).1 hp (hw i (by omega) c_65).2).1.mp z_))
                · simp only [if_neg e] at hk_ ⊢; exact hb w hw_ hk_) (zth_B (show B (h 63 3) 0 200 from hB 63 3) _ _).1)
    · refine ev_sipush (v := (-32768)) rfl rfl (by decide) ?_
      refine ev_goto rfl rfl ?_
      refine ev_istore rfl rfl rfl rfl ?_
      dsimp only [List.set]
      refine ev_iload rfl rfl rfl ?_
      refine ev_sipush (v := (-32768)) rfl rfl (by decide) ?_
      refine ev_icmp_eq rfl rfl (fun c_97 => ?_) (fun z_ => absurd (by decide) z_)
      rw [xs_s1 c_65]
      exact m_tail L b h hB n hn s hs k p0 f lk M hM e73 c v ec bc ev1 m hm0 hm hw H hJ i (by omega) p _ _ _ _ _ (ih (i + 1) _ kn tr H (by omega) hJ e86 e85 hb (zth_B (show B (h 63 3) 0 200 from hB 63 3) _ _).1)

set_option maxRecDepth 100000 in
set_option maxHeartbeats 4000000 in
theorem c_mexpl (L : Nat) (b : Bool) (h : Hp) (hB : Bx h) (n : Nat) (hn : n < 6) (s : Nat) (hs : s < 4) (k p0 f lk : Int32) (M : Nat) (hM : M ≤ 24) (e73 : h 73 n = nI M) (c v : Nat → Int32) (ec : ∀ i, i < M → z_mv (h 74 (24 * n + i)) k = c i) (bc : ∀ i, i < M → B (c i) 0 4095) (ev1 : ∀ i, i < M → ¬ c i = 0 → ∃ x, x < 60 ∧ f + nI i = nI x ∧ h 94 (60 * s + x) = v i) (m : Nat) (hm0 : m ≤ 12) (hm : h 63 5 = nI m) (hw : ∀ i, i < M → ¬ c i = 0 → RW1 h (lw (c i)) ∧ B (h 9 (lw (c i))) (-100) 100) (hp : B p0 0 200) : EvI mi_X10_explains [.ref 63, .int (nI n), .int k, .int p0, .int (nI s), .int f, .int lk] (G0 L b) h (fun r z => XM (xs c v (xC h) (dM_ h m lk) M 0 p0 (fun _ => false) (fun _ => 0)) r (z 85)) [(85, 999), (86, 999)] := by
  refine EvM.of2 (lo := [some (.ref 63), some (.int (nI n)), some (.int k), some (.int p0), some (.int (nI s)), some (.int f), some (.int lk), none, none, none, none, none, none, none]) pf_X10_explains ok_X10_explains rfl rfl ?_
  refine ev_iconst (v := 0) rfl rfl (by decide) ?_
  refine ev_istore rfl rfl rfl rfl ?_
  dsimp only [List.set]
  refine EvQ.hp (h_f2 h 0) (h_f2_0 h).symm ?_
  refine l_exi L b h n s k p0 f lk _ 12 0 (by omega) ?_
  refine ev_iload_n rfl rfl rfl ?_
  refine ev_istore rfl rfl rfl rfl ?_
  dsimp only [List.set]
  refine ev_iconst (v := 0) rfl rfl (by decide) ?_
  refine ev_istore rfl rfl rfl rfl ?_
  dsimp only [List.set]
  exact l_mex L b h hB n hn s hs k p0 f lk M hM e73 c v ec bc ev1 m hm0 hm hw M 0 p0 (fun _ => false) (fun _ => 0) (h_f2 h 12) (by omega) (jw_f2 hB 12) (fun w hw_ => (if_neg (fun z => absurd z.1 (by decide))).trans (if_pos ⟨rfl, hw_⟩)) (fun w hw_ => if_pos ⟨rfl, hw_⟩) (fun w _ q_ => by cases q_) hp

