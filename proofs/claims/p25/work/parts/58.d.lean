theorem q_or_add {x w : Nat} (hx : x < 2 ^ w) : x ||| 2 ^ w = x + 2 ^ w := Nat.or_two_pow_eq_add_of_lt hx
def mP (h : Hp) (d : Int32) (p j : Nat) : Bool := decide (¬ d < z_sz (o_moff h j (nI p)))
def mR (h : Hp) (m : Nat) (d : Int32) (p : Nat) : Nat := q_nm (mP h d p) m
/-- more that a whistle draws if it sounds -/
def mMo (h : Hp) (w : Nat) : Int32 := h 65 w - (if h 70 w = 0 then 0 else h 65 w / 2)
def s_dx (h : Hp) (m x : Nat) : Nat → Int32
  | 0 => s_md h 0 m
  | w + 1 => if x.testBit w then s_dx h m x w + mMo h w else s_dx h m x w
theorem dx_add {h : Hp} {m x w : Nat} (hx : x < 2 ^ w) : ∀ n, n ≤ w → s_dx h m (x + 2 ^ w) n = s_dx h m x n
  | 0, _ => rfl
  | n + 1, hn => by
    unfold s_dx
    rw [dx_add hx n (by omega), q_bitadd hx n, if_neg (show ¬ n = w by omega)]
theorem dx_hi {h : Hp} {m x w : Nat} (hx : x < 2 ^ w) : s_dx h m (x + 2 ^ w) (w + 1) = s_dx h m x w + mMo h w := by
  conv => lhs; unfold s_dx
  rw [dx_add hx w (Nat.le_refl _), q_bitadd hx w, if_pos rfl, if_pos rfl]
theorem dx_lo {h : Hp} {m x w : Nat} (hx : x < 2 ^ w) : s_dx h m x (w + 1) = s_dx h m x w := by
  conv => lhs; unfold s_dx
  rw [Nat.testBit_lt_two_pow hx]
  rfl
def s_ex (h : Hp) (x : Nat) : Nat → Int32
  | 0 => 0
  | w + 1 => if x.testBit w then s_ex h x w + mMo h w else s_ex h x w
theorem dx_ex (h : Hp) (m x : Nat) : ∀ w, s_dx h m x w = s_md h 0 m + s_ex h x w
  | 0 => (Int32.add_zero _).symm
  | w + 1 => by
    unfold s_dx s_ex
    rw [dx_ex h m x w]
    by_cases b : x.testBit w = true
    · rw [if_pos b, if_pos b, Int32.add_assoc]
    · rw [if_neg b, if_neg b]
theorem w_swap (a l e w : Int32) : a + e + w = a + l + (e + (w - l)) := by
  have h1 : e + (w - l) + l = e + w := by rw [Int32.add_assoc, Int32.sub_add_cancel]
  rw [Int32.add_assoc a l, Int32.add_comm l, h1, Int32.add_assoc]
theorem w_swap2 (a l e : Int32) : a + e + l = a + l + e := by
  rw [Int32.add_assoc, Int32.add_comm e l, ← Int32.add_assoc]
theorem md_0s (h : Hp) {w : Nat} (hw : w < 12) : s_md h 0 (w + 1) = s_md h 0 w + (if h 70 w = 0 then 0 else h 65 w / 2) := by
  have z : (0 : Int32) >>> (nI w &&& 31) &&& 1 = 0 := (nI_bit 0 hw).trans (by rw [Nat.zero_testBit]; rfl)
  conv => lhs; unfold s_md
  rw [z, if_neg (by decide)]
  by_cases l : h 70 w = 0
  · rw [if_pos l, if_pos l]
  · rw [if_neg l, if_neg l]
theorem md_ex (h : Hp) (x : Nat) : ∀ w, w ≤ 12 → s_md h (nI x) w = s_md h 0 w + s_ex h x w
  | 0, _ => (Int32.add_zero _).symm
  | w + 1, hw => by
    have ih := md_ex h x w (by omega)
    rw [md_0s h (show w < 12 by omega)]
    conv => lhs; unfold s_md
    conv => rhs; rhs; unfold s_ex
    rw [nI_bit x (by omega), ih]
    by_cases b : x.testBit w = true
    · rw [if_pos b, if_pos b, if_pos rfl]
      exact w_swap _ _ _ _
    · rw [if_neg b, if_neg b, if_neg (by decide)]
      by_cases l : h 70 w = 0
      · rw [if_pos l, if_pos l, Int32.add_zero, Int32.add_zero]
      · rw [if_neg l, if_neg l]
        exact w_swap2 _ _ _
theorem dx_md (h : Hp) (x : Nat) {m : Nat} (hm : m ≤ 12) : s_dx h m x m = s_md h (nI x) m := by
  rw [dx_ex, md_ex h x m hm]
def pb_ck (n : Nat) : Bool := decide ((q_pop n : Int) ≤ bm n)
theorem pb_all : ck_all pb_ck 4096 = true := by decide +kernel
theorem pop_bm {x : Nat} (hx : x < 4096) : B (nI (q_pop x)) (bx 83 x).1 (bx 83 x).2 := by
  have a := q_pop_le x
  have e : ((q_pop x : Nat) : Int) ≤ bm x := of_decide_eq_true (ck_at pb_all x hx)
  show B (nI (q_pop x)) 0 (bm x)
  exact nI_B (by omega) e
theorem bx81 {x : Nat} (hx : x < 4096) (j : Nat) : B (nI x) (bx 81 j).1 (bx 81 j).2 := by
  show B (nI x) 0 4095
  exact nI_B (by omega) (by omega)
/-- near is marked below P -/
def k_mr (h : Hp) (m : Nat) (d : Int32) (P : Nat) : Hp := fun i j => if i = 81 ∧ j < P then nI (mR h m d j) else h i j
theorem k_mr_0 (h : Hp) (m : Nat) (d : Int32) : k_mr h m d 0 = h := by
  funext i j
  exact if_neg (fun q => Nat.not_lt_zero _ q.2)
theorem k_mr_ne {h : Hp} {m : Nat} {d : Int32} {P i j : Nat} (hi : i ≠ 81) : k_mr h m d P i j = h i j := if_neg (fun q => hi q.1)
theorem k_mr_s (h : Hp) (m : Nat) (d : Int32) (P : Nat) : k_mr h m d (P + 1) = ev_set (k_mr h m d P) 81 P (nI (mR h m d P)) := by
  funext i j
  simp only [k_mr, ev_set]
  by_cases h1 : i = 81
  · subst h1
    by_cases h2 : j = P
    · subst h2; simp
    · by_cases h3 : j < P
      · simp [h2, h3, Nat.lt_succ_of_lt h3]
      · simp [h2, h3, show ¬ j < P + 1 by omega]
  · simp [h1]
theorem jw_mr {h : Hp} (hB : Bx h) {m : Nat} (hm : m ≤ 12) (d : Int32) (P : Nat) : JW [(81, 999), (82, 999), (83, 999)] h (k_mr h m d P) := by
  refine ⟨fun i j => ?_, fun i j q => ?_⟩
  · unfold k_mr
    split
    · rename_i e; rw [e.1]; exact bx81 (q_nm_12 _ hm) j
    · exact hB i j
  · refine k_mr_ne (fun e => ?_)
    subst e; cases q

set_option maxRecDepth 100000 in
set_option maxHeartbeats 4000000 in
theorem l_mp1 (L : Nat) (b : Bool) (h : Hp) (hB : Bx h) (m : Nat) (hm0 : m ≤ 12) (hm : h 63 5 = nI m) (V : Nat) (hV : V ≤ 200) (eV : h 63 3 = nI V) (d : Int32) (p : Nat) (hp : p ≤ 200) (Q : Pst) (kk : EvQ mi_X10_prepares 62 [some (.ref 63), some (.int d), some (.int (nI p)), some (.int (nI m)), none] [] (G0 L b) (ev_set (k_mr h m d p) 81 p (nI (q_nm (mP h d p) m))) 0 0 Q) : ∀ t i : Nat, i + t = m → EvQ mi_X10_prepares 19 [some (.ref 63), some (.int d), some (.int (nI p)), some (.int (nI i)), none] [] (G0 L b) (ev_set (k_mr h m d p) 81 p (nI (q_nm (mP h d p) i))) 0 0 Q := by
  intro t
  induction t with
  | zero =>
    intro i hi
    have hi2 : i = m := by omega
    subst hi2
    refine ev_iload_n rfl rfl rfl ?_
    refine ev_aload_n rfl rfl rfl ?_
    refine ev_getI rfl rfl fl_X10_121 rfl rfl rfl ?_
    try simp (disch := omega) only [ev_rd1, ev_rd2, k_mr_ne]
    refine ev_icmp_ge rfl rfl (fun c_24 => ?_) (fun z_ => absurd (by rw [hm]; exact Int32.le_refl _) z_)
    exact kk
  | succ t ih =>
    intro i hi
    refine ev_iload_n rfl rfl rfl ?_
    refine ev_aload_n rfl rfl rfl ?_
    refine ev_getI rfl rfl fl_X10_121 rfl rfl rfl ?_
    try simp (disch := omega) only [ev_rd1, ev_rd2, k_mr_ne]
    refine ev_icmp_ge rfl rfl (fun z_ => absurd z_ (by rw [hm]; exact nI_ge (by omega) (by omega))) (fun c_24 => ?_)
    refine ev_aload_n rfl rfl rfl ?_
    refine ev_getR rfl rfl fl_X10_76 rfl rfl rfl rfl ?_
    refine ev_iload_n rfl rfl rfl ?_
    refine ev_dup2 rfl rfl rfl rfl ?_
    refine ev_iald rfl rfl rfl (vp_in_nI (by omega) (by decide)) (nI_clamp (by omega)) ?_
    try simp (disch := omega) only [ev_rd1, ev_rd2, k_mr_ne]
    refine ev_aload_n rfl rfl rfl ?_
    refine ev_iload_n rfl rfl rfl ?_
    refine ev_iload_n rfl rfl rfl ?_
    refine ev_V2D rfl rfl lk_X10_153 vt_X10_off rfl rfl rfl rfl rfl (EvD.to (c_moff L b _ i (by omega) (nI p)) (show _ = o_moff h i (nI p) from o_moff_cg (fun k => (ev_rd2 (by decide)).trans (k_mr_ne (by decide))) (fun k => (ev_rd2 (by decide)).trans (k_mr_ne (by decide))) (fun k => (ev_rd2 (by decide)).trans (k_mr_ne (by decide))) i (nI p)) rfl) ?_
    refine ev_S1D rfl rfl lk_X10_156 st_X10_size rfl rfl (c_size _ _ _) ?_
    refine ev_iload_n rfl rfl rfl ?_
    refine ev_icmp_gt rfl rfl (fun c_44 => ?_) (fun c_44 => ?_)
    · refine ev_iconst (v := 0) rfl rfl (by decide) ?_
      refine ev_ior rfl rfl ?_
      refine ev_iast rfl rfl rfl rfl (vp_in_nI (by omega) (by decide)) (nI_clamp (by omega)) ?_
      refine ev_iinc (y := 1) rfl rfl rfl (by decide) rfl rfl ?_
      dsimp only [List.set]
      refine ev_goto rfl rfl ?_
      have z_ := ih (i + 1) (by omega)
      rw [show q_nm (mP h d p) (i + 1) = q_nm (mP h d p) i from if_neg (by rw [show mP h d p i = false from decide_eq_false (fun z => z c_44)]; decide)] at z_
      rw [nI_1 i, ev_ss, Int32.or_zero]
      exact z_
    · refine ev_iconst (v := 1) rfl rfl (by decide) ?_
      refine ev_iload_n rfl rfl rfl ?_
      refine ev_ishl rfl rfl ?_
      refine ev_goto rfl rfl ?_
      refine ev_ior rfl rfl ?_
      refine ev_iast rfl rfl rfl rfl (vp_in_nI (by omega) (by decide)) (nI_clamp (by omega)) ?_
      refine ev_iinc (y := 1) rfl rfl rfl (by decide) rfl rfl ?_
      dsimp only [List.set]
      refine ev_goto rfl rfl ?_
      have z_ := ih (i + 1) (by omega)
      rw [show q_nm (mP h d p) (i + 1) = q_nm (mP h d p) i ||| 2 ^ i from if_pos (decide_eq_true c_44)] at z_
      rw [nI_1 i, ev_ss, one_shl i (by omega), nI_or]
      exact z_

set_option maxRecDepth 100000 in
set_option maxHeartbeats 4000000 in
theorem l_mp2 (L : Nat) (b : Bool) (h : Hp) (hB : Bx h) (m : Nat) (hm0 : m ≤ 12) (hm : h 63 5 = nI m) (V : Nat) (hV : V ≤ 200) (eV : h 63 3 = nI V) (d : Int32) (Q : Pst) (kk : EvQ mi_X10_prepares 68 [some (.ref 63), some (.int d), some (.int (nI (V + 1))), none, none] [] (G0 L b) (k_mr h m d (V + 1)) 0 0 Q) : ∀ t p : Nat, p + t = V + 1 → EvQ mi_X10_prepares 2 [some (.ref 63), some (.int d), some (.int (nI p)), none, none] [] (G0 L b) (k_mr h m d p) 0 0 Q := by
  intro t
  induction t with
  | zero =>
    intro p hp
    have hp2 : p = V + 1 := by omega
    subst hp2
    refine ev_iload_n rfl rfl rfl ?_
    refine ev_aload_n rfl rfl rfl ?_
    refine ev_getI rfl rfl fl_X10_19 rfl rfl rfl ?_
    try simp (disch := omega) only [k_mr_ne, eV]
    refine ev_icmp_gt rfl rfl (fun c_7 => ?_) (fun z_ => absurd (show nI V < nI (V + 1) from (nI_lt2 (by omega) (by omega)).mpr (by omega)) z_)
    exact kk
  | succ t ih =>
    intro p hp
    refine ev_iload_n rfl rfl rfl ?_
    refine ev_aload_n rfl rfl rfl ?_
    refine ev_getI rfl rfl fl_X10_19 rfl rfl rfl ?_
    try simp (disch := omega) only [k_mr_ne, eV]
    refine ev_icmp_gt rfl rfl (fun z_ => absurd z_ (show ¬ nI V < nI p from fun z => absurd ((nI_lt2 (by omega) (by omega)).mp z) (by omega))) (fun c_7 => ?_)
    refine ev_aload_n rfl rfl rfl ?_
    refine ev_getR rfl rfl fl_X10_76 rfl rfl rfl rfl ?_
    refine ev_iload_n rfl rfl rfl ?_
    refine ev_iconst (v := 0) rfl rfl (by decide) ?_
    refine ev_iast rfl rfl rfl rfl (vp_in_nI (by omega) (by decide)) (nI_clamp (by omega)) ?_
    refine ev_iconst (v := 0) rfl rfl (by decide) ?_
    refine ev_istore_n rfl rfl rfl rfl ?_
    dsimp only [List.set]
    refine l_mp1 L b h hB m hm0 hm V hV eV d p (by omega) _ ?_ m 0 (by omega)
    refine ev_iinc (y := 1) rfl rfl rfl (by decide) rfl rfl ?_
    dsimp only [List.set]
    refine ev_goto rfl rfl ?_
    rw [nI_1 p]
    refine EvQ.hp (k_mr h m d (p + 1)) (k_mr_s h m d p).symm ?_
    exact EvQ.drop 3 (ih (p + 1) (by omega))

set_option maxRecDepth 100000 in
set_option maxHeartbeats 4000000 in
theorem l_mp3 (L : Nat) (b : Bool) (h : Hp) (hB : Bx h) (m : Nat) (hm0 : m ≤ 12) (hm : h 63 5 = nI m) (V : Nat) (hV : V ≤ 200) (eV : h 63 3 = nI V) (d : Int32) (w : Nat) (hw : w < m) (Q : Pst) (kk : ∀ F : Hp, JW [(81, 999), (82, 999), (83, 999)] h F → (∀ p, p ≤ V → F 81 p = nI (mR h m d p)) → (∀ x, x < 2 ^ (w + 1) → F 82 x = s_dx h m x (w + 1) ∧ F 83 x = nI (q_pop x)) → EvQ mi_X10_prepares 182 [some (.ref 63), some (.int d), some (.int (nI w)), none, none] [] (G0 L b) F 0 0 Q) : ∀ (t c : Nat) (F : Hp), c + t = 2 ^ w → JW [(81, 999), (82, 999), (83, 999)] h F → (∀ p, p ≤ V → F 81 p = nI (mR h m d p)) → (∀ x, x < 2 ^ w + c → F 82 x = s_dx h m x (w + 1) ∧ F 83 x = nI (q_pop x)) → EvQ mi_X10_prepares 128 [some (.ref 63), some (.int d), some (.int (nI w)), some (.int (mMo h w)), some (.int (nI c))] [] (G0 L b) F 0 0 Q := by
  have p12 : 2 ^ w ≤ 2048 := (Nat.pow_le_pow_right (n := 2) (by decide) (by omega) : 2 ^ w ≤ 2 ^ 11)
  intro t
  induction t with
  | zero =>
    intro c F hc hF e81 e1
    have hc2 : c = 2 ^ w := by omega
    subst hc2
    refine ev_iload rfl rfl rfl ?_
    refine ev_iconst (v := 1) rfl rfl (by decide) ?_
    refine ev_iload_n rfl rfl rfl ?_
    refine ev_ishl rfl rfl ?_
    rw [one_shl w (by omega)]
    refine ev_icmp_ge rfl rfl (fun c_133 => ?_) (fun z_ => absurd (Int32.le_refl _) z_)
    exact EvQ.drop 4 (EvQ.drop 3 (kk F hF e81 (fun x hx => e1 x (by rw [Nat.pow_succ] at hx; omega))))
  | succ t ih =>
    intro c F hc hF e81 e1
    have hc2 : c < 2 ^ w := by omega
    have f82 : F 82 c = s_dx h m c w := by rw [(e1 c (by omega)).1, dx_lo hc2]
    have f83 : F 83 c = nI (q_pop c) := (e1 c (by omega)).2
    have g83 : ∀ y, (ev_set F 82 (c + 2 ^ w) y) 83 c = nI (q_pop c) := fun y => (ev_rd2 (by decide)).trans f83
    refine ev_iload rfl rfl rfl ?_
    refine ev_iconst (v := 1) rfl rfl (by decide) ?_
    refine ev_iload_n rfl rfl rfl ?_
    refine ev_ishl rfl rfl ?_
    rw [one_shl w (by omega)]
    refine ev_icmp_ge rfl rfl (fun z_ => absurd z_ (nI_ge (by omega) (by omega))) (fun c_133 => ?_)
    refine ev_aload_n rfl rfl rfl ?_
    refine ev_getR rfl rfl fl_X10_79 rfl rfl rfl rfl ?_
    refine ev_iload rfl rfl rfl ?_
    refine ev_iconst (v := 1) rfl rfl (by decide) ?_
    refine ev_iload_n rfl rfl rfl ?_
    refine ev_ishl rfl rfl ?_
    rw [one_shl w (by omega)]
    refine ev_ior rfl rfl ?_
    rw [nI_or, q_or_add hc2]
    refine ev_aload_n rfl rfl rfl ?_
    refine ev_getR rfl rfl fl_X10_79 rfl rfl rfl rfl ?_
    refine ev_iload rfl rfl rfl ?_
    refine ev_iald rfl rfl rfl (vp_in_nI (by omega) (by decide)) (nI_clamp (by omega)) ?_
    try simp only [f82, g83]
    refine ev_iload_n rfl rfl rfl ?_
    refine ev_iadd rfl rfl ?_
    refine ev_iast rfl rfl rfl rfl (vp_in_nI (by omega) (by decide)) (nI_clamp (by omega)) ?_
    refine ev_aload_n rfl rfl rfl ?_
    refine ev_getR rfl rfl fl_X10_82 rfl rfl rfl rfl ?_
    refine ev_iload rfl rfl rfl ?_
    refine ev_iconst (v := 1) rfl rfl (by decide) ?_
    refine ev_iload_n rfl rfl rfl ?_
    refine ev_ishl rfl rfl ?_
    rw [one_shl w (by omega)]
    refine ev_ior rfl rfl ?_
    rw [nI_or, q_or_add hc2]
    refine ev_aload_n rfl rfl rfl ?_
    refine ev_getR rfl rfl fl_X10_82 rfl rfl rfl rfl ?_
    refine ev_iload rfl rfl rfl ?_
    refine ev_iald rfl rfl rfl (vp_in_nI (by omega) (by decide)) (nI_clamp (by omega)) ?_
    try simp only [f82, g83]
    refine ev_iconst (v := 1) rfl rfl (by decide) ?_
    refine ev_iaddV (v := nI (q_pop (c + 2 ^ w))) (by rw [q_pop_add (by omega) hc2]; exact (nI_1 _).symm) rfl rfl ?_
    refine ev_iast rfl rfl rfl rfl (vp_in_nI (by omega) (by decide)) (nI_clamp (by omega)) ?_
    refine ev_iinc (y := 1) rfl rfl rfl (by decide) rfl rfl ?_
    dsimp only [List.set]
    refine ev_goto rfl rfl ?_
    rw [nI_1 c]
    refine ih (c + 1) (ev_set (ev_set F 82 (c + 2 ^ w) (s_dx h m c w + mMo h w)) 83 (c + 2 ^ w) (nI (q_pop (c + 2 ^ w)))) (by omega) ((hF.set rfl (B.any _)).set rfl (pop_bm (by omega))) (fun p hp => (ev_rd2 (by decide)).trans ((ev_rd2 (by decide)).trans (e81 p hp))) (fun x hx => ?_)
    rw [ev_rd2 (by decide), ev_sj, ev_sj, ev_rd2 (by decide)]
    by_cases e : x = c + 2 ^ w
    · rw [if_pos e, if_pos e, e, dx_hi hc2]
      exact ⟨rfl, rfl⟩
    · rw [if_neg e, if_neg e]
      exact e1 x (by omega)

set_option maxRecDepth 100000 in
set_option maxHeartbeats 4000000 in
theorem l_mp4 (L : Nat) (b : Bool) (h : Hp) (hB : Bx h) (m : Nat) (hm0 : m ≤ 12) (hm : h 63 5 = nI m) (V : Nat) (hV : V ≤ 200) (eV : h 63 3 = nI V) (d : Int32) : ∀ (t w : Nat) (F : Hp), w + t = m → JW [(81, 999), (82, 999), (83, 999)] h F → (∀ p, p ≤ V → F 81 p = nI (mR h m d p)) → (∀ x, x < 2 ^ w → F 82 x = s_dx h m x w ∧ F 83 x = nI (q_pop x)) → EvQ mi_X10_prepares 88 [some (.ref 63), some (.int d), some (.int (nI w)), none, none] [] (G0 L b) F 0 0 (QK (fun z => (∀ p, p ≤ V → z 81 p = nI (mR h m d p)) ∧ (∀ x, x < 2 ^ m → z 82 x = s_dx h m x m ∧ z 83 x = nI (q_pop x))) [(81, 999), (82, 999), (83, 999)] (G0 L b) h) := by
  intro t
  induction t with
  | zero =>
    intro w F hw hF e81 e1
    have hw2 : w = m := by omega
    subst hw2
    have f5 : F 63 5 = nI w := (hF.2 63 5 rfl).trans hm
    refine ev_iload_n rfl rfl rfl ?_
    refine ev_aload_n rfl rfl rfl ?_
    refine ev_getI rfl rfl fl_X10_121 rfl rfl rfl ?_
    try simp only [f5]
    refine ev_icmp_ge rfl rfl (fun c_93 => ?_) (fun z_ => absurd (Int32.le_refl _) z_)
    exact ev_vret rfl rfl trivial (⟨rfl, rfl, hF, e81, e1⟩)
  | succ t ih =>
    intro w F hw hF e81 e1
    have f5 : F 63 5 = nI m := (hF.2 63 5 rfl).trans hm
    have f65 : F 65 w = h 65 w := hF.2 65 w rfl
    have f70 : F 70 w = h 70 w := hF.2 70 w rfl
    refine ev_iload_n rfl rfl rfl ?_
    refine ev_aload_n rfl rfl rfl ?_
    refine ev_getI rfl rfl fl_X10_121 rfl rfl rfl ?_
    try simp only [f5, f65, f70]
    refine ev_icmp_ge rfl rfl (fun z_ => absurd z_ (nI_ge (by omega) (by omega))) (fun c_93 => ?_)
    refine ev_aload_n rfl rfl rfl ?_
    refine ev_getR rfl rfl fl_X10_26 rfl rfl rfl rfl ?_
    refine ev_iload_n rfl rfl rfl ?_
    refine ev_iald rfl rfl rfl (vp_in_nI (by omega) (by decide)) (nI_clamp (by omega)) ?_
    try simp only [f5, f65, f70]
    refine ev_aload_n rfl rfl rfl ?_
    refine ev_getR rfl rfl fl_X10_42 rfl rfl rfl rfl ?_
    refine ev_iload_n rfl rfl rfl ?_
    refine ev_zald rfl rfl rfl (vp_in_nI (by omega) (by decide)) (nI_clamp (by omega)) ?_
    try simp only [f5, f65, f70]
    refine ev_if_eq rfl rfl (fun c_108 => ?_) (fun c_108 => ?_)
    · refine ev_iconst (v := 0) rfl rfl (by decide) ?_
      refine ev_isub rfl rfl ?_
      refine ev_istore_n rfl rfl rfl rfl ?_
      dsimp only [List.set]
      refine ev_iconst (v := 0) rfl rfl (by decide) ?_
      refine ev_istore rfl rfl rfl rfl ?_
      dsimp only [List.set]
      rw [show h 65 w - 0 = mMo h w from by unfold mMo; rw [if_pos c_108]]
      refine l_mp3 L b h hB m hm0 hm V hV eV d w (by omega) _ (fun F2 hF2 g81 g1 => ?_) (2 ^ w) 0 F (by omega) hF e81 (fun x hx => by rw [dx_lo (by omega)]; exact e1 x (by omega))
      refine ev_iinc (y := 1) rfl rfl rfl (by decide) rfl rfl ?_
      dsimp only [List.set]
      refine ev_goto rfl rfl ?_
      rw [nI_1 w]
      exact ih (w + 1) F2 (by omega) hF2 g81 g1
    · refine ev_aload_n rfl rfl rfl ?_
      refine ev_getR rfl rfl fl_X10_26 rfl rfl rfl rfl ?_
      refine ev_iload_n rfl rfl rfl ?_
      refine ev_iald rfl rfl rfl (vp_in_nI (by omega) (by decide)) (nI_clamp (by omega)) ?_
      try simp only [f5, f65, f70]
      refine ev_iconst (v := 2) rfl rfl (by decide) ?_
      refine ev_idiv rfl rfl (by decide) ?_
      refine ev_goto rfl rfl ?_
      refine ev_isub rfl rfl ?_
      refine ev_istore_n rfl rfl rfl rfl ?_
      dsimp only [List.set]
      refine ev_iconst (v := 0) rfl rfl (by decide) ?_
      refine ev_istore rfl rfl rfl rfl ?_
      dsimp only [List.set]
      rw [show h 65 w - (h 65 w / 2) = mMo h w from by unfold mMo; rw [if_neg c_108]]
      refine l_mp3 L b h hB m hm0 hm V hV eV d w (by omega) _ (fun F2 hF2 g81 g1 => ?_) (2 ^ w) 0 F (by omega) hF e81 (fun x hx => by rw [dx_lo (by omega)]; exact e1 x (by omega))
      refine ev_iinc (y := 1) rfl rfl rfl (by decide) rfl rfl ?_
      dsimp only [List.set]
      refine ev_goto rfl rfl ?_
      rw [nI_1 w]
      exact ih (w + 1) F2 (by omega) hF2 g81 g1

set_option maxRecDepth 100000 in
set_option maxHeartbeats 4000000 in
theorem c_mprep (L : Nat) (b : Bool) (h : Hp) (hB : Bx h) (m : Nat) (hm0 : m ≤ 12) (hm : h 63 5 = nI m) (V : Nat) (hV : V ≤ 200) (eV : h 63 3 = nI V) (d : Int32)  : EvK mi_X10_prepares [.ref 63, .int d] (G0 L b) h (fun z => (∀ p, p ≤ V → z 81 p = nI (mR h m d p)) ∧ (∀ x, x < 2 ^ m → z 82 x = s_dx h m x m ∧ z 83 x = nI (q_pop x))) [(81, 999), (82, 999), (83, 999)] := by
  refine EvM.of2 (lo := [some (.ref 63), some (.int d), none, none, none]) pf_X10_prepares ok_X10_prepares rfl rfl ?_
  refine ev_iconst (v := 0) rfl rfl (by decide) ?_
  refine ev_istore_n rfl rfl rfl rfl ?_
  dsimp only [List.set]
  refine EvQ.hp (k_mr h m d 0) (k_mr_0 h m d).symm ?_
  refine l_mp2 L b h hB m hm0 hm V hV eV d _ ?_ (V + 1) 0 (by omega)
  refine ev_aload_n rfl rfl rfl ?_
  refine ev_getR rfl rfl fl_X10_79 rfl rfl rfl rfl ?_
  refine ev_iconst (v := 0) rfl rfl (by decide) ?_
  refine ev_aload_n rfl rfl rfl ?_
  refine ev_iconst (v := 0) rfl rfl (by decide) ?_
  refine ev_V1D rfl rfl lk_X10_145 vt_X10_drawn rfl rfl rfl rfl rfl (EvD.to (c_mdrawn L b _ m hm0 ((k_mr_ne (by decide)).trans hm) 0) (show _ = s_md h 0 m from s_md_cg (fun k => k_mr_ne (by decide)) (fun k => k_mr_ne (by decide)) _ _) rfl) ?_
  refine ev_iast (j := 0) rfl rfl rfl rfl (by unfold vp_in; decide) (by decide) ?_
  refine ev_aload_n rfl rfl rfl ?_
  refine ev_getR rfl rfl fl_X10_82 rfl rfl rfl rfl ?_
  refine ev_iconst (v := 0) rfl rfl (by decide) ?_
  refine ev_iconst (v := 0) rfl rfl (by decide) ?_
  refine ev_iast (j := 0) rfl rfl rfl rfl (by unfold vp_in; decide) (by decide) ?_
  refine ev_iconst (v := 0) rfl rfl (by decide) ?_
  refine ev_istore_n rfl rfl rfl rfl ?_
  dsimp only [List.set]
  refine EvQ.drop 3 (l_mp4 L b h hB m hm0 hm V hV eV d m 0 (ev_set (ev_set (k_mr h m d (V + 1)) 82 0 (s_md h 0 m)) 83 0 0) (by omega) ?_ (fun p hp => ?_) (fun x hx => ?_))
  · exact ((jw_mr hB hm0 d (V + 1)).set rfl (B.any _)).set rfl (pop_bm (x := 0) (by decide))
  · rw [ev_rd2 (by decide), ev_rd2 (by decide)]
    exact if_pos ⟨rfl, by omega⟩
  · have x0 : x = 0 := by have : 2 ^ 0 = 1 := rfl; omega
    subst x0
    rw [ev_rd2 (by decide), ev_rd1, ev_rd1]
    exact ⟨rfl, rfl⟩
