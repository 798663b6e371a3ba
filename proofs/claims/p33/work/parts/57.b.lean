def o_moff (h : Hp) (w : Nat) (p : Int32) : Int32 := h 68 w + h 69 w + z_dn (h 66 w * (p - 100)) 10
def s_md (h : Hp) (c : Int32) : Nat → Int32
  | 0 => 0
  | k + 1 => if c >>> (nI k &&& 31) &&& 1 = 1 then s_md h c k + h 65 k else if h 70 k = 0 then s_md h c k + 0 else s_md h c k + h 65 k / 2
def s_ms (h : Hp) (c p : Int32) : Nat → Int32
  | 0 => 0
  | k + 1 => if c >>> (nI k &&& 31) &&& 1 = 1 then (if z_sz (o_moff h k p) ≤ s_ms h c p k then s_ms h c p k else z_sz (o_moff h k p)) else (if 0 ≤ s_ms h c p k then s_ms h c p k else 0)

set_option maxRecDepth 100000 in
set_option maxHeartbeats 4000000 in
theorem c_moff (L : Nat) (b : Bool) (h : Hp) (w : Nat) (hw : w < 12) (p : Int32) : EvD mi_X10_off [.ref 63, .int (nI w), .int p] (G0 L b) h (o_moff h w p) (h) := by
  refine EvD.of (lo := [some (.ref 63), some (.int (nI w)), some (.int p)]) pf_X10_off ok_X10_off rfl rfl ?_
  refine ev_aload_n rfl rfl rfl ?_
  refine ev_getR rfl rfl fl_X10_36 rfl rfl rfl rfl ?_
  refine ev_iload_n rfl rfl rfl ?_
  refine ev_iald rfl rfl rfl (vp_in_nI (by omega) (by decide)) (nI_clamp (by omega)) ?_
  refine ev_aload_n rfl rfl rfl ?_
  refine ev_getR rfl rfl fl_X10_39 rfl rfl rfl rfl ?_
  refine ev_iload_n rfl rfl rfl ?_
  refine ev_iald rfl rfl rfl (vp_in_nI (by omega) (by decide)) (nI_clamp (by omega)) ?_
  refine ev_iadd rfl rfl ?_
  refine ev_aload_n rfl rfl rfl ?_
  refine ev_getR rfl rfl fl_X10_29 rfl rfl rfl rfl ?_
  refine ev_iload_n rfl rfl rfl ?_
  refine ev_iald rfl rfl rfl (vp_in_nI (by omega) (by decide)) (nI_clamp (by omega)) ?_
  refine ev_iload_n rfl rfl rfl ?_
  refine ev_bipush (v := 100) rfl rfl (by decide) ?_
  refine ev_isub rfl rfl ?_
  refine ev_imul rfl rfl ?_
  refine ev_bipush (v := 10) rfl rfl (by decide) ?_
  refine ev_S2D rfl rfl lk_X10_149 st_X10_down rfl rfl (c_down _ _ _ _ (by decide)) ?_
  refine ev_iadd rfl rfl ?_
  exact ev_iret rfl rfl rfl (⟨rfl, rfl, rfl⟩)

set_option maxRecDepth 100000 in
set_option maxHeartbeats 4000000 in
theorem l_mdrawn (L : Nat) (b : Bool) (h : Hp) (m : Nat) (hm0 : m ≤ 12) (hm : h 63 5 = nI m) (c : Int32) : ∀ t i : Nat, i + t = m → EvQ mi_X10_drawn 4 [some (.ref 63), some (.int c), some (.int (s_md h c i)), some (.int (nI i))] [] (G0 L b) h 0 0 (fun v G' h' => v = some (.int (s_md h c m)) ∧ G' = G0 L b ∧ h' = h) := by
  intro t
  induction t with
  | zero =>
    intro i hi
    have hi2 : i = m := by omega
    subst hi2
    refine ev_iload_n rfl rfl rfl ?_
    refine ev_aload_n rfl rfl rfl ?_
    refine ev_getI rfl rfl fl_X10_121 rfl rfl rfl ?_
    refine ev_icmp_ge rfl rfl (fun c_9 => ?_) (fun z_ => absurd (by rw [hm]; exact Int32.le_refl _) z_)
    refine ev_iload_n rfl rfl rfl ?_
    exact ev_iret rfl rfl rfl (⟨rfl, rfl, rfl⟩)
  | succ t ih =>
    intro i hi
    refine ev_iload_n rfl rfl rfl ?_
    refine ev_aload_n rfl rfl rfl ?_
    refine ev_getI rfl rfl fl_X10_121 rfl rfl rfl ?_
    refine ev_icmp_ge rfl rfl (fun z_ => absurd z_ (by rw [hm]; exact nI_ge (by omega) (by omega))) (fun c_9 => ?_)
    refine ev_iload_n rfl rfl rfl ?_
    refine ev_iload_n rfl rfl rfl ?_
    refine ev_iload_n rfl rfl rfl ?_
    refine ev_ishr rfl rfl ?_
    refine ev_iconst (v := 1) rfl rfl (by decide) ?_
    refine ev_iand rfl rfl ?_
    refine ev_iconst (v := 1) rfl rfl (by decide) ?_
    refine ev_icmp_ne rfl rfl (fun c_19 => ?_) (fun c_19 => ?_)
    · refine ev_aload_n rfl rfl rfl ?_
      refine ev_getR rfl rfl fl_X10_42 rfl rfl rfl rfl ?_
      refine ev_iload_n rfl rfl rfl ?_
      refine ev_zald rfl rfl rfl (vp_in_nI (by omega) (by decide)) (nI_clamp (by omega)) ?_
      refine ev_if_eq rfl rfl (fun c_37 => ?_) (fun c_37 => ?_)
      · refine ev_iconst (v := 0) rfl rfl (by decide) ?_
        refine ev_iadd rfl rfl ?_
        refine ev_istore_n rfl rfl rfl rfl ?_
        dsimp only [List.set]
        refine ev_iinc (y := 1) rfl rfl rfl (by decide) rfl rfl ?_
        dsimp only [List.set]
        refine ev_goto rfl rfl ?_
        have z_ := ih (i + 1) (by omega)
        simp only [s_md, if_neg c_9, if_neg c_19, if_pos c_37] at z_
        rw [nI_1 i]
        exact z_
      · refine ev_aload_n rfl rfl rfl ?_
        refine ev_getR rfl rfl fl_X10_26 rfl rfl rfl rfl ?_
        refine ev_iload_n rfl rfl rfl ?_
        refine ev_iald rfl rfl rfl (vp_in_nI (by omega) (by decide)) (nI_clamp (by omega)) ?_
        refine ev_iconst (v := 2) rfl rfl (by decide) ?_
        refine ev_idiv rfl rfl (by decide) ?_
        refine ev_goto rfl rfl ?_
        refine ev_iadd rfl rfl ?_
        refine ev_istore_n rfl rfl rfl rfl ?_
        dsimp only [List.set]
        refine ev_iinc (y := 1) rfl rfl rfl (by decide) rfl rfl ?_
        dsimp only [List.set]
        refine ev_goto rfl rfl ?_
        have z_ := ih (i + 1) (by omega)
        simp only [s_md, if_neg c_9, if_neg c_19, if_neg c_37] at z_
        rw [nI_1 i]
        exact z_
    · refine ev_aload_n rfl rfl rfl ?_
      refine ev_getR rfl rfl fl_X10_26 rfl rfl rfl rfl ?_
      refine ev_iload_n rfl rfl rfl ?_
      refine ev_iald rfl rfl rfl (vp_in_nI (by omega) (by decide)) (nI_clamp (by omega)) ?_
      refine ev_goto rfl rfl ?_
      refine ev_iadd rfl rfl ?_
      refine ev_istore_n rfl rfl rfl rfl ?_
      dsimp only [List.set]
      refine ev_iinc (y := 1) rfl rfl rfl (by decide) rfl rfl ?_
      dsimp only [List.set]
      refine ev_goto rfl rfl ?_
      have z_ := ih (i + 1) (by omega)
      simp only [s_md, if_neg c_9, if_pos c_19] at z_
      rw [nI_1 i]
      exact z_

set_option maxRecDepth 100000 in
set_option maxHeartbeats 4000000 in
theorem c_mdrawn (L : Nat) (b : Bool) (h : Hp) (m : Nat) (hm0 : m ≤ 12) (hm : h 63 5 = nI m) (c : Int32) : EvD mi_X10_drawn [.ref 63, .int c] (G0 L b) h (s_md h c m) (h) := by
  refine EvD.of (lo := [some (.ref 63), some (.int c), none, none]) pf_X10_drawn ok_X10_drawn rfl rfl ?_
  refine ev_iconst (v := 0) rfl rfl (by decide) ?_
  refine ev_istore_n rfl rfl rfl rfl ?_
  dsimp only [List.set]
  refine ev_iconst (v := 0) rfl rfl (by decide) ?_
  refine ev_istore_n rfl rfl rfl rfl ?_
  dsimp only [List.set]
  exact l_mdrawn L b h m hm0 hm c m 0 (by omega)

set_option maxRecDepth 100000 in
set_option maxHeartbeats 4000000 in
theorem l_mstray (L : Nat) (b : Bool) (h : Hp) (m : Nat) (hm0 : m ≤ 12) (hm : h 63 5 = nI m) (c p : Int32) : ∀ t i : Nat, i + t = m → EvQ mi_X10_strayOf 5 [some (.ref 63), some (.int c), some (.int p), some (.int (s_ms h c p i)), some (.int (nI i)), none] [] (G0 L b) h 0 0 (fun v G' h' => v = some (.int (s_ms h c p m)) ∧ G' = G0 L b ∧ h' = h) := by
  intro t
  induction t with
  | zero =>
    intro i hi
    have hi2 : i = m := by omega
    subst hi2
    refine ev_iload rfl rfl rfl ?_
    refine ev_aload_n rfl rfl rfl ?_
    refine ev_getI rfl rfl fl_X10_121 rfl rfl rfl ?_
    refine ev_icmp_ge rfl rfl (fun c_11 => ?_) (fun z_ => absurd (by rw [hm]; exact Int32.le_refl _) z_)
    refine ev_iload_n rfl rfl rfl ?_
    exact ev_iret rfl rfl rfl (⟨rfl, rfl, rfl⟩)
  | succ t ih =>
    intro i hi
    refine ev_iload rfl rfl rfl ?_
    refine ev_aload_n rfl rfl rfl ?_
    refine ev_getI rfl rfl fl_X10_121 rfl rfl rfl ?_
    refine ev_icmp_ge rfl rfl (fun z_ => absurd z_ (by rw [hm]; exact nI_ge (by omega) (by omega))) (fun c_11 => ?_)
    refine ev_iload_n rfl rfl rfl ?_
    refine ev_iload rfl rfl rfl ?_
    refine ev_ishr rfl rfl ?_
    refine ev_iconst (v := 1) rfl rfl (by decide) ?_
    refine ev_iand rfl rfl ?_
    refine ev_iconst (v := 1) rfl rfl (by decide) ?_
    refine ev_icmp_ne rfl rfl (fun c_21 => ?_) (fun c_21 => ?_)
    · refine ev_iconst (v := 0) rfl rfl (by decide) ?_
      refine ev_istore rfl rfl rfl rfl ?_
      dsimp only [List.set]
      refine ev_iload rfl rfl rfl ?_
      refine ev_iload_n rfl rfl rfl ?_
      refine ev_icmp_le rfl rfl (fun c_43 => ?_) (fun c_43 => ?_)
      · refine ev_iload_n rfl rfl rfl ?_
        refine ev_istore_n rfl rfl rfl rfl ?_
        dsimp only [List.set]
        refine ev_iinc (y := 1) rfl rfl rfl (by decide) rfl rfl ?_
        dsimp only [List.set]
        refine ev_goto rfl rfl ?_
        have z_ := ih (i + 1) (by omega)
        simp only [s_ms, if_neg c_11, if_neg c_21, if_pos c_43] at z_
        rw [nI_1 i]
        exact EvQ.drop 5 z_
      · refine ev_iload rfl rfl rfl ?_
        refine ev_goto rfl rfl ?_
        refine ev_istore_n rfl rfl rfl rfl ?_
        dsimp only [List.set]
        refine ev_iinc (y := 1) rfl rfl rfl (by decide) rfl rfl ?_
        dsimp only [List.set]
        refine ev_goto rfl rfl ?_
        have z_ := ih (i + 1) (by omega)
        simp only [s_ms, if_neg c_11, if_neg c_21, if_neg c_43] at z_
        rw [nI_1 i]
        exact EvQ.drop 5 z_
    · refine ev_aload_n rfl rfl rfl ?_
      refine ev_iload rfl rfl rfl ?_
      refine ev_iload_n rfl rfl rfl ?_
      refine ev_V2D rfl rfl lk_X10_153 vt_X10_off rfl rfl rfl rfl rfl (c_moff L b h i (by omega) p) ?_
      refine ev_S1D rfl rfl lk_X10_156 st_X10_size rfl rfl (c_size _ _ _) ?_
      refine ev_goto rfl rfl ?_
      refine ev_istore rfl rfl rfl rfl ?_
      dsimp only [List.set]
      refine ev_iload rfl rfl rfl ?_
      refine ev_iload_n rfl rfl rfl ?_
      refine ev_icmp_le rfl rfl (fun c_43 => ?_) (fun c_43 => ?_)
      · refine ev_iload_n rfl rfl rfl ?_
        refine ev_istore_n rfl rfl rfl rfl ?_
        dsimp only [List.set]
        refine ev_iinc (y := 1) rfl rfl rfl (by decide) rfl rfl ?_
        dsimp only [List.set]
        refine ev_goto rfl rfl ?_
        have z_ := ih (i + 1) (by omega)
        simp only [s_ms, if_neg c_11, if_pos c_21, if_pos c_43] at z_
        rw [nI_1 i]
        exact EvQ.drop 5 z_
      · refine ev_iload rfl rfl rfl ?_
        refine ev_goto rfl rfl ?_
        refine ev_istore_n rfl rfl rfl rfl ?_
        dsimp only [List.set]
        refine ev_iinc (y := 1) rfl rfl rfl (by decide) rfl rfl ?_
        dsimp only [List.set]
        refine ev_goto rfl rfl ?_
        have z_ := ih (i + 1) (by omega)
        simp only [s_ms, if_neg c_11, if_pos c_21, if_neg c_43] at z_
        rw [nI_1 i]
        exact EvQ.drop 5 z_

set_option maxRecDepth 100000 in
set_option maxHeartbeats 4000000 in
theorem c_mstray (L : Nat) (b : Bool) (h : Hp) (m : Nat) (hm0 : m ≤ 12) (hm : h 63 5 = nI m) (c p : Int32) : EvD mi_X10_strayOf [.ref 63, .int c, .int p] (G0 L b) h (s_ms h c p m) (h) := by
  refine EvD.of (lo := [some (.ref 63), some (.int c), some (.int p), none, none, none]) pf_X10_strayOf ok_X10_strayOf rfl rfl ?_
  refine ev_iconst (v := 0) rfl rfl (by decide) ?_
  refine ev_istore_n rfl rfl rfl rfl ?_
  dsimp only [List.set]
  refine ev_iconst (v := 0) rfl rfl (by decide) ?_
  refine ev_istore rfl rfl rfl rfl ?_
  dsimp only [List.set]
  exact l_mstray L b h m hm0 hm c p m 0 (by omega)

/-- a beat's numbers: steam, water, fire, valve; d: what it draws -/
def g_p (p w f d : Int32) : Int32 := z_max 0 (p + (if w - d ≤ 0 then 0 else 2 * f) - d)
def g_0 (p w f v d : Int32) : Int32 := if g_p p w f d ≤ v then g_p p w f d else v
def g_1 (p w f v d : Int32) : Int32 := if g_p p w f d ≤ v then w - d else z_max 0 (w - d - (g_p p w f d - v))
def g_4 (p w f v d n : Int32) : Int32 := if g_p p w f d ≤ v then n else n + 1
theorem z_mx0 (y : Int32) : (if 0 ≤ y then y else 0) = z_max 0 y := by
  unfold z_max
  by_cases q : 0 < y
  · rw [if_pos q, if_pos (Int32.le_of_lt q)]
  · rw [if_neg q]
    by_cases q2 : 0 ≤ y
    · rw [if_pos q2]; exact Int32.le_antisymm (Int32.not_lt.mp q) q2
    · rw [if_neg q2]
theorem g_ps (p x d : Int32) : p + (x - d) = p + x - d := by rw [Int32.sub_eq_add_neg, ← Int32.add_assoc, ← Int32.sub_eq_add_neg]
theorem g_p1 {p w f d : Int32} (c : w - d ≤ 0) : z_max 0 (p + (0 - d)) = g_p p w f d := by unfold g_p; rw [if_pos c, g_ps]
theorem g_p2 {p w f d : Int32} (c : ¬ w - d ≤ 0) : z_max 0 (p + (2 * f - d)) = g_p p w f d := by unfold g_p; rw [if_neg c, g_ps]
/-- water behind a blow: no number leaves its bounds -/
theorem g_w {w1 s v : Int32} (hw : 0 ≤ w1.toInt) (hv : 0 ≤ v.toInt) (hs : v.toInt ≤ s.toInt) : (if s - v ≤ w1 then w1 - (s - v) else 0) = z_max 0 (w1 - (s - v)) := by
  have s1 := Int32.toInt_lt s
  have w2 := Int32.toInt_lt w1
  have e1 := w_sub (x := s) (y := v) (by omega) (by omega)
  have e2 := w_sub (x := w1) (y := s - v) (by omega) (by omega)
  have e0 : (0 : Int32).toInt = 0 := by decide
  unfold z_max
  by_cases q : s - v ≤ w1
  · rw [if_pos q]
    have z := w_le q
    by_cases q2 : 0 < w1 - (s - v)
    · rw [if_pos q2]
    · rw [if_neg q2]
      have z2 := w_nlt q2
      exact Int32.toInt_inj.mp (by omega)
  · rw [if_neg q]
    have z := w_lt (Int32.not_le.mp q)
    rw [if_neg (fun y => by have := w_lt y; omega)]

theorem z_max_0 (y : Int32) : 0 ≤ (z_max 0 y).toInt := by
  unfold z_max
  have e0 : (0 : Int32).toInt = 0 := by decide
  split
  · rename_i q; have := w_lt q; omega
  · omega

def k_mg (h : Hp) (a0 a1 a4 : Int32) : Hp := fun i j => if i = 63 then (if j = 0 then a0 else if j = 1 then a1 else if j = 4 then a4 else h i j) else h i j
theorem k_mg_ne {h : Hp} {a0 a1 a4 : Int32} {i j : Nat} (hi : i ≠ 63) : k_mg h a0 a1 a4 i j = h i j := if_neg hi
theorem jw_mg {h : Hp} (hB : Bx h) {a0 a1 a4 : Int32} (h0 : B a0 0 200) : JW [(63, 0), (63, 1), (63, 4)] h (k_mg h a0 a1 a4) := by
  refine ⟨fun i j => ?_, fun i j q => ?_⟩
  · unfold k_mg
    by_cases e : i = 63
    · subst e
      rw [if_pos rfl]
      by_cases e0 : j = 0
      · subst e0; rw [if_pos rfl]; exact h0
      · rw [if_neg e0]
        by_cases e1 : j = 1
        · subst e1; rw [if_pos rfl]; exact B.any _
        · rw [if_neg e1]
          by_cases e4 : j = 4
          · subst e4; rw [if_pos rfl]; exact B.any _
          · rw [if_neg e4]; exact hB 63 j
    · rw [if_neg e]; exact hB i j
  · unfold k_mg
    by_cases e : i = 63
    · subst e
      have e0 : j ≠ 0 := fun z => by subst z; cases q
      have e1 : j ≠ 1 := fun z => by subst z; cases q
      have e4 : j ≠ 4 := fun z => by subst z; cases q
      rw [if_pos rfl, if_neg e0, if_neg e1, if_neg e4]
    · rw [if_neg e]
theorem mg_a (h : Hp) (x y z : Int32) : ev_set (ev_set (ev_set h 63 1 x) 63 0 y) 63 0 z = k_mg h z x (h 63 4) := by
  funext i j
  unfold ev_set k_mg
  by_cases e : i = 63
  · subst e
    by_cases e0 : j = 0
    · subst e0; rfl
    · by_cases e1 : j = 1
      · subst e1; rfl
      · by_cases e4 : j = 4
        · subst e4; rfl
        · simp [e0, e1, e4]
  · simp [e]
theorem mg_b (h : Hp) (x y z u v w : Int32) : ev_set (ev_set (ev_set (ev_set (ev_set (ev_set h 63 1 x) 63 0 y) 63 0 z) 63 1 u) 63 0 v) 63 4 w = k_mg h v u w := by
  funext i j
  unfold ev_set k_mg
  by_cases e : i = 63
  · subst e
    by_cases e0 : j = 0
    · subst e0; rfl
    · by_cases e1 : j = 1
      · subst e1; rfl
      · by_cases e4 : j = 4
        · subst e4; rfl
        · simp [e0, e1, e4]
  · simp [e]

def r_mgo (h : Hp) (m : Nat) (c : Int32) : Int32 := if s_md h c m ≤ h 63 1 then s_ms h c (h 63 0) m else -5
def k_mgo (h : Hp) (m : Nat) (c : Int32) : Hp := if s_md h c m ≤ h 63 1 then k_mg h (g_0 (h 63 0) (h 63 1) (h 63 2) (h 63 3) (s_md h c m)) (g_1 (h 63 0) (h 63 1) (h 63 2) (h 63 3) (s_md h c m)) (g_4 (h 63 0) (h 63 1) (h 63 2) (h 63 3) (s_md h c m) (h 63 4)) else h

set_option maxRecDepth 100000 in
set_option maxHeartbeats 4000000 in
theorem c_mgoes (L : Nat) (b : Bool) (h : Hp) (m : Nat) (hm0 : m ≤ 12) (hm : h 63 5 = nI m) (hB : Bx h) (c : Int32) (hd : 0 ≤ (s_md h c m).toInt) : EvD mi_X10_goes [.ref 63, .int c] (G0 L b) h (r_mgo h m c) (k_mgo h m c) := by
  refine EvD.of (lo := [some (.ref 63), some (.int c), none, none]) pf_X10_goes ok_X10_goes rfl rfl ?_
  refine ev_aload_n rfl rfl rfl ?_
  refine ev_iload_n rfl rfl rfl ?_
  refine ev_V1D rfl rfl lk_X10_145 vt_X10_drawn rfl rfl rfl rfl rfl (c_mdrawn L b h m hm0 hm c) ?_
  refine ev_istore_n rfl rfl rfl rfl ?_
  dsimp only [List.set]
  refine ev_iload_n rfl rfl rfl ?_
  refine ev_aload_n rfl rfl rfl ?_
  refine ev_getI rfl rfl fl_X10_13 rfl rfl rfl ?_
  try simp (disch := decide) only [ev_rd1, ev_rd2, ev_rd3]
  refine ev_icmp_le rfl rfl (fun c_11 => ?_) (fun c_11 => ?_)
  · have hv0 : 0 ≤ (h 63 3).toInt := (show B (h 63 3) 0 200 from hB 63 3).1
    have hw1 : 0 ≤ (h 63 1 - s_md h c m).toInt := by
      have z_ := w_le c_11
      have y_ := Int32.toInt_lt (h 63 1)
      have e_ := w_sub (x := h 63 1) (y := s_md h c m) (by omega) (by omega)
      omega
    refine ev_aload_n rfl rfl rfl ?_
    refine ev_iload_n rfl rfl rfl ?_
    refine ev_aload_n rfl rfl rfl ?_
    refine ev_getI rfl rfl fl_X10_7 rfl rfl rfl ?_
    try simp (disch := decide) only [ev_rd1, ev_rd2, ev_rd3]
    refine ev_V2D rfl rfl lk_X10_159 vt_X10_strayOf rfl rfl rfl rfl rfl (c_mstray L b h m hm0 hm c _) ?_
    refine ev_istore_n rfl rfl rfl rfl ?_
    dsimp only [List.set]
    refine ev_aload_n rfl rfl rfl ?_
    refine ev_dup rfl rfl rfl ?_
    refine ev_getI rfl rfl fl_X10_13 rfl rfl rfl ?_
    try simp (disch := decide) only [ev_rd1, ev_rd2, ev_rd3]
    refine ev_iload_n rfl rfl rfl ?_
    refine ev_isub rfl rfl ?_
    refine ev_putI rfl rfl fl_X10_13 rfl rfl rfl rfl rfl ?_
    refine ev_aload_n rfl rfl rfl ?_
    refine ev_dup rfl rfl rfl ?_
    refine ev_getI rfl rfl fl_X10_7 rfl rfl rfl ?_
    try simp (disch := decide) only [ev_rd1, ev_rd2, ev_rd3]
    refine ev_aload_n rfl rfl rfl ?_
    refine ev_getI rfl rfl fl_X10_13 rfl rfl rfl ?_
    try simp (disch := decide) only [ev_rd1, ev_rd2, ev_rd3]
    refine ev_if_le rfl rfl (fun c_46 => ?_) (fun c_46 => ?_)
    · refine ev_iconst (v := 0) rfl rfl (by decide) ?_
      refine ev_iload_n rfl rfl rfl ?_
      refine ev_isub rfl rfl ?_
      refine ev_iadd rfl rfl ?_
      refine ev_putI rfl rfl fl_X10_7 rfl rfl rfl rfl rfl ?_
      refine ev_aload_n rfl rfl rfl ?_
      refine ev_aload_n rfl rfl rfl ?_
      refine ev_getI rfl rfl fl_X10_7 rfl rfl rfl ?_
      try simp (disch := decide) only [ev_rd1, ev_rd2, ev_rd3]
      refine ev_if_ge rfl rfl (fun c_70 => ?_) (fun c_70 => ?_)
      · refine ev_aload_n rfl rfl rfl ?_
        refine ev_getI rfl rfl fl_X10_7 rfl rfl rfl ?_
        try simp (disch := decide) only [ev_rd1, ev_rd2, ev_rd3]
        refine ev_putI rfl rfl fl_X10_7 rfl rfl rfl rfl rfl ?_
        refine ev_aload_n rfl rfl rfl ?_
        refine ev_getI rfl rfl fl_X10_7 rfl rfl rfl ?_
        try simp (disch := decide) only [ev_rd1, ev_rd2, ev_rd3]
        refine ev_aload_n rfl rfl rfl ?_
        refine ev_getI rfl rfl fl_X10_19 rfl rfl rfl ?_
        try simp (disch := decide) only [ev_rd1, ev_rd2, ev_rd3]
        refine ev_icmp_le rfl rfl (fun c_92 => ?_) (fun c_92 => ?_)
        · refine ev_iload_n rfl rfl rfl ?_
          exact ev_iret rfl rfl rfl (⟨congrArg (fun z => some (Value.int z)) (by unfold r_mgo; rw [if_pos c_11]), rfl, by
                  have eg : h 63 0 + (0 - s_md h c m) = g_p (h 63 0) (h 63 1) (h 63 2) (s_md h c m) := ((by rw [← z_mx0, if_pos c_70]) : z_max 0 (h 63 0 + (0 - s_md h c m)) = h 63 0 + (0 - s_md h c m)).symm.trans (g_p1 (p := h 63 0) (f := h 63 2) c_46)
                  have cl : g_p (h 63 0) (h 63 1) (h 63 2) (s_md h c m) ≤ h 63 3 := by rw [← eg]; exact c_92
                  unfold k_mgo g_0 g_1 g_4
                  rw [if_pos c_11, if_pos cl, if_pos cl, if_pos cl, ← eg]
                  exact mg_a _ _ _ _⟩)
        · refine ev_aload_n rfl rfl rfl ?_
          refine ev_aload_n rfl rfl rfl ?_
          refine ev_getI rfl rfl fl_X10_13 rfl rfl rfl ?_
          try simp (disch := decide) only [ev_rd1, ev_rd2, ev_rd3]
          refine ev_aload_n rfl rfl rfl ?_
          refine ev_getI rfl rfl fl_X10_7 rfl rfl rfl ?_
          try simp (disch := decide) only [ev_rd1, ev_rd2, ev_rd3]
          refine ev_aload_n rfl rfl rfl ?_
          refine ev_getI rfl rfl fl_X10_19 rfl rfl rfl ?_
          try simp (disch := decide) only [ev_rd1, ev_rd2, ev_rd3]
          refine ev_isub rfl rfl ?_
          refine ev_icmp_ge rfl rfl (fun c_109 => ?_) (fun c_109 => ?_)
          · refine ev_aload_n rfl rfl rfl ?_
            refine ev_getI rfl rfl fl_X10_13 rfl rfl rfl ?_
            try simp (disch := decide) only [ev_rd1, ev_rd2, ev_rd3]
            refine ev_aload_n rfl rfl rfl ?_
            refine ev_getI rfl rfl fl_X10_7 rfl rfl rfl ?_
            try simp (disch := decide) only [ev_rd1, ev_rd2, ev_rd3]
            refine ev_aload_n rfl rfl rfl ?_
            refine ev_getI rfl rfl fl_X10_19 rfl rfl rfl ?_
            try simp (disch := decide) only [ev_rd1, ev_rd2, ev_rd3]
            refine ev_isub rfl rfl ?_
            refine ev_isub rfl rfl ?_
            refine ev_putI rfl rfl fl_X10_13 rfl rfl rfl rfl rfl ?_
            refine ev_aload_n rfl rfl rfl ?_
            refine ev_aload_n rfl rfl rfl ?_
            refine ev_getI rfl rfl fl_X10_19 rfl rfl rfl ?_
            try simp (disch := decide) only [ev_rd1, ev_rd2, ev_rd3]
            refine ev_putI rfl rfl fl_X10_7 rfl rfl rfl rfl rfl ?_
            refine ev_aload_n rfl rfl rfl ?_
            refine ev_dup rfl rfl rfl ?_
            refine ev_getI rfl rfl fl_X10_131 rfl rfl rfl ?_
            try simp (disch := decide) only [ev_rd1, ev_rd2, ev_rd3]
            refine ev_iconst (v := 1) rfl rfl (by decide) ?_
            refine ev_iadd rfl rfl ?_
            refine ev_putI rfl rfl fl_X10_131 rfl rfl rfl rfl rfl ?_
            refine ev_iload_n rfl rfl rfl ?_
            exact ev_iret rfl rfl rfl (⟨congrArg (fun z => some (Value.int z)) (by unfold r_mgo; rw [if_pos c_11]), rfl, by
                    have eg : h 63 0 + (0 - s_md h c m) = g_p (h 63 0) (h 63 1) (h 63 2) (s_md h c m) := ((by rw [← z_mx0, if_pos c_70]) : z_max 0 (h 63 0 + (0 - s_md h c m)) = h 63 0 + (0 - s_md h c m)).symm.trans (g_p1 (p := h 63 0) (f := h 63 2) c_46)
                    have cl : ¬ g_p (h 63 0) (h 63 1) (h 63 2) (s_md h c m) ≤ h 63 3 := by rw [← eg]; exact c_92
                    unfold k_mgo g_0 g_1 g_4
                    rw [if_pos c_11, if_neg cl, if_neg cl, if_neg cl, ← eg, ← g_w hw1 hv0 (by have := w_lt (Int32.not_le.mp c_92); omega), if_pos c_109]
                    exact mg_b _ _ _ _ _ _ _⟩)
          · refine ev_iconst (v := 0) rfl rfl (by decide) ?_
            refine ev_goto rfl rfl ?_
            refine ev_putI rfl rfl fl_X10_13 rfl rfl rfl rfl rfl ?_
            refine ev_aload_n rfl rfl rfl ?_
            refine ev_aload_n rfl rfl rfl ?_
            refine ev_getI rfl rfl fl_X10_19 rfl rfl rfl ?_
            try simp (disch := decide) only [ev_rd1, ev_rd2, ev_rd3]
            refine ev_putI rfl rfl fl_X10_7 rfl rfl rfl rfl rfl ?_
            refine ev_aload_n rfl rfl rfl ?_
            refine ev_dup rfl rfl rfl ?_
            refine ev_getI rfl rfl fl_X10_131 rfl rfl rfl ?_
            try simp (disch := decide) only [ev_rd1, ev_rd2, ev_rd3]
            refine ev_iconst (v := 1) rfl rfl (by decide) ?_
            refine ev_iadd rfl rfl ?_
            refine ev_putI rfl rfl fl_X10_131 rfl rfl rfl rfl rfl ?_
            refine ev_iload_n rfl rfl rfl ?_
            exact ev_iret rfl rfl rfl (⟨congrArg (fun z => some (Value.int z)) (by unfold r_mgo; rw [if_pos c_11]), rfl, by
                    have eg : h 63 0 + (0 - s_md h c m) = g_p (h 63 0) (h 63 1) (h 63 2) (s_md h c m) := ((by rw [← z_mx0, if_pos c_70]) : z_max 0 (h 63 0 + (0 - s_md h c m)) = h 63 0 + (0 - s_md h c m)).symm.trans (g_p1 (p := h 63 0) (f := h 63 2) c_46)
                    have cl : ¬ g_p (h 63 0) (h 63 1) (h 63 2) (s_md h c m) ≤ h 63 3 := by rw [← eg]; exact c_92
                    unfold k_mgo g_0 g_1 g_4
                    rw [if_pos c_11, if_neg cl, if_neg cl, if_neg cl, ← eg, ← g_w hw1 hv0 (by have := w_lt (Int32.not_le.mp c_92); omega), if_neg c_109]
                    exact mg_b _ _ _ _ _ _ _⟩)
      · refine ev_iconst (v := 0) rfl rfl (by decide) ?_
        refine ev_goto rfl rfl ?_
        refine ev_putI rfl rfl fl_X10_7 rfl rfl rfl rfl rfl ?_
        refine ev_aload_n rfl rfl rfl ?_
        refine ev_getI rfl rfl fl_X10_7 rfl rfl rfl ?_
        try simp (disch := decide) only [ev_rd1, ev_rd2, ev_rd3]
        refine ev_aload_n rfl rfl rfl ?_
        refine ev_getI rfl rfl fl_X10_19 rfl rfl rfl ?_
        try simp (disch := decide) only [ev_rd1, ev_rd2, ev_rd3]
        refine ev_icmp_le rfl rfl (fun c_92 => ?_) (fun c_92 => ?_)
        · refine ev_iload_n rfl rfl rfl ?_
          exact ev_iret rfl rfl rfl (⟨congrArg (fun z => some (Value.int z)) (by unfold r_mgo; rw [if_pos c_11]), rfl, by
                  have eg : 0 = g_p (h 63 0) (h 63 1) (h 63 2) (s_md h c m) := ((by rw [← z_mx0, if_neg c_70]) : z_max 0 (h 63 0 + (0 - s_md h c m)) = 0).symm.trans (g_p1 (p := h 63 0) (f := h 63 2) c_46)
                  have cl : g_p (h 63 0) (h 63 1) (h 63 2) (s_md h c m) ≤ h 63 3 := by rw [← eg]; exact c_92
                  unfold k_mgo g_0 g_1 g_4
                  rw [if_pos c_11, if_pos cl, if_pos cl, if_pos cl, ← eg]
                  exact mg_a _ _ _ _⟩)
        · refine ev_aload_n rfl rfl rfl ?_
          refine ev_aload_n rfl rfl rfl ?_
          refine ev_getI rfl rfl fl_X10_13 rfl rfl rfl ?_
          try simp (disch := decide) only [ev_rd1, ev_rd2, ev_rd3]
          refine ev_aload_n rfl rfl rfl ?_
          refine ev_getI rfl rfl fl_X10_7 rfl rfl rfl ?_
          try simp (disch := decide) only [ev_rd1, ev_rd2, ev_rd3]
          refine ev_aload_n rfl rfl rfl ?_
          refine ev_getI rfl rfl fl_X10_19 rfl rfl rfl ?_
          try simp (disch := decide) only [ev_rd1, ev_rd2, ev_rd3]
          refine ev_isub rfl rfl ?_
          refine ev_icmp_ge rfl rfl (fun c_109 => ?_) (fun c_109 => ?_)
          · refine ev_aload_n rfl rfl rfl ?_
            refine ev_getI rfl rfl fl_X10_13 rfl rfl rfl ?_
            try simp (disch := decide) only [ev_rd1, ev_rd2, ev_rd3]
            refine ev_aload_n rfl rfl rfl ?_
            refine ev_getI rfl rfl fl_X10_7 rfl rfl rfl ?_
            try simp (disch := decide) only [ev_rd1, ev_rd2, ev_rd3]
            refine ev_aload_n rfl rfl rfl ?_
            refine ev_getI rfl rfl fl_X10_19 rfl rfl rfl ?_
            try simp (disch := decide) only [ev_rd1, ev_rd2, ev_rd3]
            refine ev_isub rfl rfl ?_
            refine ev_isub rfl rfl ?_
            refine ev_putI rfl rfl fl_X10_13 rfl rfl rfl rfl rfl ?_
            refine ev_aload_n rfl rfl rfl ?_
            refine ev_aload_n rfl rfl rfl ?_
            refine ev_getI rfl rfl fl_X10_19 rfl rfl rfl ?_
            try simp (disch := decide) only [ev_rd1, ev_rd2, ev_rd3]
            refine ev_putI rfl rfl fl_X10_7 rfl rfl rfl rfl rfl ?_
            refine ev_aload_n rfl rfl rfl ?_
            refine ev_dup rfl rfl rfl ?_
            refine ev_getI rfl rfl fl_X10_131 rfl rfl rfl ?_
            try simp (disch := decide) only [ev_rd1, ev_rd2, ev_rd3]
            refine ev_iconst (v := 1) rfl rfl (by decide) ?_
            refine ev_iadd rfl rfl ?_
            refine ev_putI rfl rfl fl_X10_131 rfl rfl rfl rfl rfl ?_
            refine ev_iload_n rfl rfl rfl ?_
            exact ev_iret rfl rfl rfl (⟨congrArg (fun z => some (Value.int z)) (by unfold r_mgo; rw [if_pos c_11]), rfl, by
                    have eg : 0 = g_p (h 63 0) (h 63 1) (h 63 2) (s_md h c m) := ((by rw [← z_mx0, if_neg c_70]) : z_max 0 (h 63 0 + (0 - s_md h c m)) = 0).symm.trans (g_p1 (p := h 63 0) (f := h 63 2) c_46)
                    have cl : ¬ g_p (h 63 0) (h 63 1) (h 63 2) (s_md h c m) ≤ h 63 3 := by rw [← eg]; exact c_92
                    unfold k_mgo g_0 g_1 g_4
                    rw [if_pos c_11, if_neg cl, if_neg cl, if_neg cl, ← eg, ← g_w hw1 hv0 (by have := w_lt (Int32.not_le.mp c_92); omega), if_pos c_109]
                    exact mg_b _ _ _ _ _ _ _⟩)
          · refine ev_iconst (v := 0) rfl rfl (by decide) ?_
            refine ev_goto rfl rfl ?_
            refine ev_putI rfl rfl fl_X10_13 rfl rfl rfl rfl rfl ?_
            refine ev_aload_n rfl rfl rfl ?_
            refine ev_aload_n rfl rfl rfl ?_
            refine ev_getI rfl rfl fl_X10_19 rfl rfl rfl ?_
            try simp (disch := decide) only [ev_rd1, ev_rd2, ev_rd3]
            refine ev_putI rfl rfl fl_X10_7 rfl rfl rfl rfl rfl ?_
            refine ev_aload_n rfl rfl rfl ?_
            refine ev_dup rfl rfl rfl ?_
            refine ev_getI rfl rfl fl_X10_131 rfl rfl rfl ?_
            try simp (disch := decide) only [ev_rd1, ev_rd2, ev_rd3]
            refine ev_iconst (v := 1) rfl rfl (by decide) ?_
            refine ev_iadd rfl rfl ?_
            refine ev_putI rfl rfl fl_X10_131 rfl rfl rfl rfl rfl ?_
            refine ev_iload_n rfl rfl rfl ?_
            exact ev_iret rfl rfl rfl (⟨congrArg (fun z => some (Value.int z)) (by unfold r_mgo; rw [if_pos c_11]), rfl, by
                    have eg : 0 = g_p (h 63 0) (h 63 1) (h 63 2) (s_md h c m) := ((by rw [← z_mx0, if_neg c_70]) : z_max 0 (h 63 0 + (0 - s_md h c m)) = 0).symm.trans (g_p1 (p := h 63 0) (f := h 63 2) c_46)
                    have cl : ¬ g_p (h 63 0) (h 63 1) (h 63 2) (s_md h c m) ≤ h 63 3 := by rw [← eg]; exact c_92
                    unfold k_mgo g_0 g_1 g_4
                    rw [if_pos c_11, if_neg cl, if_neg cl, if_neg cl, ← eg, ← g_w hw1 hv0 (by have := w_lt (Int32.not_le.mp c_92); omega), if_neg c_109]
                    exact mg_b _ _ _ _ _ _ _⟩)
    · refine ev_iconst (v := 2) rfl rfl (by decide) ?_
      refine ev_aload_n rfl rfl rfl ?_
      refine ev_getI rfl rfl fl_X10_16 rfl rfl rfl ?_
      try simp (disch := decide) only [ev_rd1, ev_rd2, ev_rd3]
      refine ev_imul rfl rfl ?_
      refine ev_goto rfl rfl ?_
      refine ev_iload_n rfl rfl rfl ?_
      refine ev_isub rfl rfl ?_
      refine ev_iadd rfl rfl ?_
      refine ev_putI rfl rfl fl_X10_7 rfl rfl rfl rfl rfl ?_
      refine ev_aload_n rfl rfl rfl ?_
      refine ev_aload_n rfl rfl rfl ?_
      refine ev_getI rfl rfl fl_X10_7 rfl rfl rfl ?_
      try simp (disch := decide) only [ev_rd1, ev_rd2, ev_rd3]
      refine ev_if_ge rfl rfl (fun c_70 => ?_) (fun c_70 => ?_)
      · refine ev_aload_n rfl rfl rfl ?_
        refine ev_getI rfl rfl fl_X10_7 rfl rfl rfl ?_
        try simp (disch := decide) only [ev_rd1, ev_rd2, ev_rd3]
        refine ev_putI rfl rfl fl_X10_7 rfl rfl rfl rfl rfl ?_
        refine ev_aload_n rfl rfl rfl ?_
        refine ev_getI rfl rfl fl_X10_7 rfl rfl rfl ?_
        try simp (disch := decide) only [ev_rd1, ev_rd2, ev_rd3]
        refine ev_aload_n rfl rfl rfl ?_
        refine ev_getI rfl rfl fl_X10_19 rfl rfl rfl ?_
        try simp (disch := decide) only [ev_rd1, ev_rd2, ev_rd3]
        refine ev_icmp_le rfl rfl (fun c_92 => ?_) (fun c_92 => ?_)
        · refine ev_iload_n rfl rfl rfl ?_
          exact ev_iret rfl rfl rfl (⟨congrArg (fun z => some (Value.int z)) (by unfold r_mgo; rw [if_pos c_11]), rfl, by
                  have eg : h 63 0 + (2 * h 63 2 - s_md h c m) = g_p (h 63 0) (h 63 1) (h 63 2) (s_md h c m) := ((by rw [← z_mx0, if_pos c_70]) : z_max 0 (h 63 0 + (2 * h 63 2 - s_md h c m)) = h 63 0 + (2 * h 63 2 - s_md h c m)).symm.trans (g_p2 (p := h 63 0) (f := h 63 2) c_46)
                  have cl : g_p (h 63 0) (h 63 1) (h 63 2) (s_md h c m) ≤ h 63 3 := by rw [← eg]; exact c_92
                  unfold k_mgo g_0 g_1 g_4
                  rw [if_pos c_11, if_pos cl, if_pos cl, if_pos cl, ← eg]
                  exact mg_a _ _ _ _⟩)
        · refine ev_aload_n rfl rfl rfl ?_
          refine ev_aload_n rfl rfl rfl ?_
          refine ev_getI rfl rfl fl_X10_13 rfl rfl rfl ?_
          try simp (disch := decide) only [ev_rd1, ev_rd2, ev_rd3]
          refine ev_aload_n rfl rfl rfl ?_
          refine ev_getI rfl rfl fl_X10_7 rfl rfl rfl ?_
          try simp (disch := decide) only [ev_rd1, ev_rd2, ev_rd3]
          refine ev_aload_n rfl rfl rfl ?_
          refine ev_getI rfl rfl fl_X10_19 rfl rfl rfl ?_
          try simp (disch := decide) only [ev_rd1, ev_rd2, ev_rd3]
          refine ev_isub rfl rfl ?_
          refine ev_icmp_ge rfl rfl (fun c_109 => ?_) (fun c_109 => ?_)
          · refine ev_aload_n rfl rfl rfl ?_
            refine ev_getI rfl rfl fl_X10_13 rfl rfl rfl ?_
            try simp (disch := decide) only [ev_rd1, ev_rd2, ev_rd3]
            refine ev_aload_n rfl rfl rfl ?_
            refine ev_getI rfl rfl fl_X10_7 rfl rfl rfl ?_
            try simp (disch := decide) only [ev_rd1, ev_rd2, ev_rd3]
            refine ev_aload_n rfl rfl rfl ?_
            refine ev_getI rfl rfl fl_X10_19 rfl rfl rfl ?_
            try simp (disch := decide) only [ev_rd1, ev_rd2, ev_rd3]
            refine ev_isub rfl rfl ?_
            refine ev_isub rfl rfl ?_
            refine ev_putI rfl rfl fl_X10_13 rfl rfl rfl rfl rfl ?_
            refine ev_aload_n rfl rfl rfl ?_
            refine ev_aload_n rfl rfl rfl ?_
            refine ev_getI rfl rfl fl_X10_19 rfl rfl rfl ?_
            try simp (disch := decide) only [ev_rd1, ev_rd2, ev_rd3]
            refine ev_putI rfl rfl fl_X10_7 rfl rfl rfl rfl rfl ?_
            refine ev_aload_n rfl rfl rfl ?_
            refine ev_dup rfl rfl rfl ?_
            refine ev_getI rfl rfl fl_X10_131 rfl rfl rfl ?_
            try simp (disch := decide) only [ev_rd1, ev_rd2, ev_rd3]
            refine ev_iconst (v := 1) rfl rfl (by decide) ?_
            refine ev_iadd rfl rfl ?_
            refine ev_putI rfl rfl fl_X10_131 rfl rfl rfl rfl rfl ?_
            refine ev_iload_n rfl rfl rfl ?_
            exact ev_iret rfl rfl rfl (⟨congrArg (fun z => some (Value.int z)) (by unfold r_mgo; rw [if_pos c_11]), rfl, by
                    have eg : h 63 0 + (2 * h 63 2 - s_md h c m) = g_p (h 63 0) (h 63 1) (h 63 2) (s_md h c m) := ((by rw [← z_mx0, if_pos c_70]) : z_max 0 (h 63 0 + (2 * h 63 2 - s_md h c m)) = h 63 0 + (2 * h 63 2 - s_md h c m)).symm.trans (g_p2 (p := h 63 0) (f := h 63 2) c_46)
                    have cl : ¬ g_p (h 63 0) (h 63 1) (h 63 2) (s_md h c m) ≤ h 63 3 := by rw [← eg]; exact c_92
                    unfold k_mgo g_0 g_1 g_4
                    rw [if_pos c_11, if_neg cl, if_neg cl, if_neg cl, ← eg, ← g_w hw1 hv0 (by have := w_lt (Int32.not_le.mp c_92); omega), if_pos c_109]
                    exact mg_b _ _ _ _ _ _ _⟩)
          · refine ev_iconst (v := 0) rfl rfl (by decide) ?_
            refine ev_goto rfl rfl ?_
            refine ev_putI rfl rfl fl_X10_13 rfl rfl rfl rfl rfl ?_
            refine ev_aload_n rfl rfl rfl ?_
            refine ev_aload_n rfl rfl rfl ?_
            refine ev_getI rfl rfl fl_X10_19 rfl rfl rfl ?_
            try simp (disch := decide) only [ev_rd1, ev_rd2, ev_rd3]
            refine ev_putI rfl rfl fl_X10_7 rfl rfl rfl rfl rfl ?_
            refine ev_aload_n rfl rfl rfl ?_
            refine ev_dup rfl rfl rfl ?_
            refine ev_getI rfl rfl fl_X10_131 rfl rfl rfl ?_
            try simp (disch := decide) only [ev_rd1, ev_rd2, ev_rd3]
            refine ev_iconst (v := 1) rfl rfl (by decide) ?_
            refine ev_iadd rfl rfl ?_
            refine ev_putI rfl rfl fl_X10_131 rfl rfl rfl rfl rfl ?_
            refine ev_iload_n rfl rfl rfl ?_
            exact ev_iret rfl rfl rfl (⟨congrArg (fun z => some (Value.int z)) (by unfold r_mgo; rw [if_pos c_11]), rfl, by
                    have eg : h 63 0 + (2 * h 63 2 - s_md h c m) = g_p (h 63 0) (h 63 1) (h 63 2) (s_md h c m) := ((by rw [← z_mx0, if_pos c_70]) : z_max 0 (h 63 0 + (2 * h 63 2 - s_md h c m)) = h 63 0 + (2 * h 63 2 - s_md h c m)).symm.trans (g_p2 (p := h 63 0) (f := h 63 2) c_46)
                    have cl : ¬ g_p (h 63 0) (h 63 1) (h 63 2) (s_md h c m) ≤ h 63 3 := by rw [← eg]; exact c_92
                    unfold k_mgo g_0 g_1 g_4
                    rw [if_pos c_11, if_neg cl, if_neg cl, if_neg cl, ← eg, ← g_w hw1 hv0 (by have := w_lt (Int32.not_le.mp c_92); omega), if_neg c_109]
                    exact mg_b _ _ _ _ _ _ _⟩)
      · refine ev_iconst (v := 0) rfl rfl (by decide) ?_
        refine ev_goto rfl rfl ?_
        refine ev_putI rfl rfl fl_X10_7 rfl rfl rfl rfl rfl ?_
        refine ev_aload_n rfl rfl rfl ?_
        refine ev_getI rfl rfl fl_X10_7 rfl rfl rfl ?_
        try simp (disch := decide) only [ev_rd1, ev_rd2, ev_rd3]
        refine ev_aload_n rfl rfl rfl ?_
        refine ev_getI rfl rfl fl_X10_19 rfl rfl rfl ?_
        try simp (disch := decide) only [ev_rd1, ev_rd2, ev_rd3]
        refine ev_icmp_le rfl rfl (fun c_92 => ?_) (fun c_92 => ?_)
        · refine ev_iload_n rfl rfl rfl ?_
          exact ev_iret rfl rfl rfl (⟨congrArg (fun z => some (Value.int z)) (by unfold r_mgo; rw [if_pos c_11]), rfl, by
                  have eg : 0 = g_p (h 63 0) (h 63 1) (h 63 2) (s_md h c m) := ((by rw [← z_mx0, if_neg c_70]) : z_max 0 (h 63 0 + (2 * h 63 2 - s_md h c m)) = 0).symm.trans (g_p2 (p := h 63 0) (f := h 63 2) c_46)
                  have cl : g_p (h 63 0) (h 63 1) (h 63 2) (s_md h c m) ≤ h 63 3 := by rw [← eg]; exact c_92
                  unfold k_mgo g_0 g_1 g_4
                  rw [if_pos c_11, if_pos cl, if_pos cl, if_pos cl, ← eg]
                  exact mg_a _ _ _ _⟩)
        · refine ev_aload_n rfl rfl rfl ?_
          refine ev_aload_n rfl rfl rfl ?_
          refine ev_getI rfl rfl fl_X10_13 rfl rfl rfl ?_
          try simp (disch := decide) only [ev_rd1, ev_rd2, ev_rd3]
          refine ev_aload_n rfl rfl rfl ?_
          refine ev_getI rfl rfl fl_X10_7 rfl rfl rfl ?_
          try simp (disch := decide) only [ev_rd1, ev_rd2, ev_rd3]
          refine ev_aload_n rfl rfl rfl ?_
          refine ev_getI rfl rfl fl_X10_19 rfl rfl rfl ?_
          try simp (disch := decide) only [ev_rd1, ev_rd2, ev_rd3]
          refine ev_isub rfl rfl ?_
          refine ev_icmp_ge rfl rfl (fun c_109 => ?_) (fun c_109 => ?_)
          · refine ev_aload_n rfl rfl rfl ?_
            refine ev_getI rfl rfl fl_X10_13 rfl rfl rfl ?_
            try simp (disch := decide) only [ev_rd1, ev_rd2, ev_rd3]
            refine ev_aload_n rfl rfl rfl ?_
            refine ev_getI rfl rfl fl_X10_7 rfl rfl rfl ?_
            try simp (disch := decide) only [ev_rd1, ev_rd2, ev_rd3]
            refine ev_aload_n rfl rfl rfl ?_
            refine ev_getI rfl rfl fl_X10_19 rfl rfl rfl ?_
            try simp (disch := decide) only [ev_rd1, ev_rd2, ev_rd3]
            refine ev_isub rfl rfl ?_
            refine ev_isub rfl rfl ?_
            refine ev_putI rfl rfl fl_X10_13 rfl rfl rfl rfl rfl ?_
            refine ev_aload_n rfl rfl rfl ?_
            refine ev_aload_n rfl rfl rfl ?_
            refine ev_getI rfl rfl fl_X10_19 rfl rfl rfl ?_
            try simp (disch := decide) only [ev_rd1, ev_rd2, ev_rd3]
            refine ev_putI rfl rfl fl_X10_7 rfl rfl rfl rfl rfl ?_
            refine ev_aload_n rfl rfl rfl ?_
            refine ev_dup rfl rfl rfl ?_
            refine ev_getI rfl rfl fl_X10_131 rfl rfl rfl ?_
            try simp (disch := decide) only [ev_rd1, ev_rd2, ev_rd3]
            refine ev_iconst (v := 1) rfl rfl (by decide) ?_
            refine ev_iadd rfl rfl ?_
            refine ev_putI rfl rfl fl_X10_131 rfl rfl rfl rfl rfl ?_
            refine ev_iload_n rfl rfl rfl ?_
            exact ev_iret rfl rfl rfl (⟨congrArg (fun z => some (Value.int z)) (by unfold r_mgo; rw [if_pos c_11]), rfl, by
                    have eg : 0 = g_p (h 63 0) (h 63 1) (h 63 2) (s_md h c m) := ((by rw [← z_mx0, if_neg c_70]) : z_max 0 (h 63 0 + (2 * h 63 2 - s_md h c m)) = 0).symm.trans (g_p2 (p := h 63 0) (f := h 63 2) c_46)
                    have cl : ¬ g_p (h 63 0) (h 63 1) (h 63 2) (s_md h c m) ≤ h 63 3 := by rw [← eg]; exact c_92
                    unfold k_mgo g_0 g_1 g_4
                    rw [if_pos c_11, if_neg cl, if_neg cl, if_neg cl, ← eg, ← g_w hw1 hv0 (by have := w_lt (Int32.not_le.mp c_92); omega), if_pos c_109]
                    exact mg_b _ _ _ _ _ _ _⟩)
          · refine ev_iconst (v := 0) rfl rfl (by decide) ?_
            refine ev_goto rfl rfl ?_
            refine ev_putI rfl rfl fl_X10_13 rfl rfl rfl rfl rfl ?_
            refine ev_aload_n rfl rfl rfl ?_
            refine ev_aload_n rfl rfl rfl ?_
            refine ev_getI rfl rfl fl_X10_19 rfl rfl rfl ?_
            try simp (disch := decide) only [ev_rd1, ev_rd2, ev_rd3]
            refine ev_putI rfl rfl fl_X10_7 rfl rfl rfl rfl rfl ?_
            refine ev_aload_n rfl rfl rfl ?_
            refine ev_dup rfl rfl rfl ?_
            refine ev_getI rfl rfl fl_X10_131 rfl rfl rfl ?_
            try simp (disch := decide) only [ev_rd1, ev_rd2, ev_rd3]
            refine ev_iconst (v := 1) rfl rfl (by decide) ?_
            refine ev_iadd rfl rfl ?_
            refine ev_putI rfl rfl fl_X10_131 rfl rfl rfl rfl rfl ?_
            refine ev_iload_n rfl rfl rfl ?_
            exact ev_iret rfl rfl rfl (⟨congrArg (fun z => some (Value.int z)) (by unfold r_mgo; rw [if_pos c_11]), rfl, by
                    have eg : 0 = g_p (h 63 0) (h 63 1) (h 63 2) (s_md h c m) := ((by rw [← z_mx0, if_neg c_70]) : z_max 0 (h 63 0 + (2 * h 63 2 - s_md h c m)) = 0).symm.trans (g_p2 (p := h 63 0) (f := h 63 2) c_46)
                    have cl : ¬ g_p (h 63 0) (h 63 1) (h 63 2) (s_md h c m) ≤ h 63 3 := by rw [← eg]; exact c_92
                    unfold k_mgo g_0 g_1 g_4
                    rw [if_pos c_11, if_neg cl, if_neg cl, if_neg cl, ← eg, ← g_w hw1 hv0 (by have := w_lt (Int32.not_le.mp c_92); omega), if_neg c_109]
                    exact mg_b _ _ _ _ _ _ _⟩)
  · refine ev_bipush (v := (-5)) rfl rfl (by decide) ?_
    exact ev_iret rfl rfl rfl (⟨congrArg (fun z => some (Value.int z)) (by unfold r_mgo; rw [if_neg c_11]), rfl, by unfold k_mgo; rw [if_neg c_11]⟩)

def k_msh (h : Hp) (t : Nat) : Hp := fun i j => if i = 71 ∧ j < t then h 71 (j + 42) else h i j
theorem k_msh_0 (h : Hp) : k_msh h 0 = h := by
  funext i j
  exact if_neg (fun z => absurd z.2 (Nat.not_lt_zero _))
theorem k_msh_ne {h : Hp} {t i j : Nat} (hi : i ≠ 71) : k_msh h t i j = h i j := if_neg (fun z => hi z.1)
theorem k_msh_ge {h : Hp} {t j : Nat} (hj : t ≤ j) : k_msh h t 71 j = h 71 j := if_neg (fun z => by omega)
theorem k_msh_lt {h : Hp} {t j : Nat} (hj : j < t) : k_msh h t 71 j = h 71 (j + 42) := if_pos ⟨rfl, hj⟩
theorem k_msh_s (h : Hp) (t : Nat) : ev_set (k_msh h t) 71 t (h 71 (t + 42)) = k_msh h (t + 1) := by
  funext i j
  unfold ev_set k_msh
  by_cases e : i = 71
  · subst e
    by_cases e2 : j = t
    · subst e2
      rw [if_pos ⟨rfl, rfl⟩, if_pos ⟨rfl, by omega⟩]
    · rw [if_neg (fun z => e2 z.2)]
      by_cases e3 : j < t
      · rw [if_pos ⟨rfl, e3⟩, if_pos ⟨rfl, by omega⟩]
      · rw [if_neg (fun z => e3 z.2), if_neg (fun z => e3 (by omega))]
  · rw [if_neg (fun z => e z.1), if_neg (fun z => e z.1), if_neg (fun z => e z.1)]

set_option maxRecDepth 100000 in
set_option maxHeartbeats 4000000 in
theorem l_msh (L : Nat) (b : Bool) (h : Hp) (Q : Pst) : ∀ s t : Nat, t + s = 378 → EvQ mi_X10_keeps 40 [some (.ref 63), none, none] [] (G0 L b) (k_msh h 378) 0 0 Q → EvQ mi_X10_keeps 12 [some (.ref 63), some (.int (nI (t + 42))), none] [] (G0 L b) (k_msh h t) 0 0 Q := by
  intro s
  induction s with
  | zero =>
    intro t ht kk
    have ht2 : t = 378 := by omega
    subst ht2
    refine ev_iload_n rfl rfl rfl ?_
    refine ev_sipush (v := 420) rfl rfl (by decide) ?_
    refine ev_icmp_ge rfl rfl (fun c_16 => ?_) (fun z_ => absurd (by decide) z_)
    exact EvQ.drop 1 kk
  | succ s ih =>
    intro t ht kk
    refine ev_iload_n rfl rfl rfl ?_
    refine ev_sipush (v := 420) rfl rfl (by decide) ?_
    refine ev_icmp_ge rfl rfl (fun z_ => absurd z_ (fun z_ => absurd ((nI_le2 (a := 420) (b := t + 42) (by decide) (by omega)).mp z_) (by omega))) (fun c_16 => ?_)
    refine ev_aload_n rfl rfl rfl ?_
    refine ev_getR rfl rfl fl_X10_45 rfl rfl rfl rfl ?_
    refine ev_iload_n rfl rfl rfl ?_
    refine ev_bipush (v := 42) rfl rfl (by decide) ?_
    refine ev_isub rfl rfl ?_
    rw [show nI (t + 42) - 42 = nI t from (nI_sub2 (a := t + 42) (b := 42) (by omega) (by omega)).trans (congrArg nI (by omega))]
    refine ev_aload_n rfl rfl rfl ?_
    refine ev_getR rfl rfl fl_X10_45 rfl rfl rfl rfl ?_
    refine ev_iload_n rfl rfl rfl ?_
    refine ev_iald rfl rfl rfl (vp_in_nI (by omega) (by decide)) (nI_clamp (by omega)) ?_
    rw [k_msh_ge (by omega)]
    refine ev_iast rfl rfl rfl rfl (vp_in_nI (by omega) (by decide)) (nI_clamp (by omega)) ?_
    refine ev_iinc (y := 1) rfl rfl rfl (by decide) rfl rfl ?_
    dsimp only [List.set]
    refine ev_goto rfl rfl ?_
    rw [show nI (t + 42) + 1 = nI (t + 1 + 42) from (nI_1 (t + 42)).trans (congrArg nI (by omega)), k_msh_s]
    exact ih (t + 1) (by omega) kk

set_option maxRecDepth 100000 in
set_option maxHeartbeats 4000000 in
theorem c_mk50 (L : Nat) (b : Bool) (h : Hp) (n : Nat) (hn : n < 10) (hx : h 63 13 = nI n) : EvQ mi_X10_keeps 50 [some (.ref 63), none, none] [] (G0 L b) h 0 0 (fun v G' h' => v = none ∧ G' = G0 L b ∧ h' = k_mkeep h n) := by
  refine ev_bipush (v := 42) rfl rfl (by decide) ?_
  refine ev_aload_n rfl rfl rfl ?_
  refine ev_getI rfl rfl fl_X10_128 rfl rfl rfl ?_
  refine ev_imul rfl rfl ?_
  rw [show (42 : Int32) * h 63 13 = nI (42 * n) from by rw [hx]; exact nI_mul 42 n]
  refine ev_istore_n rfl rfl rfl rfl ?_
  dsimp only [List.set]
  refine ev_aload_n rfl rfl rfl ?_
  refine ev_getR rfl rfl fl_X10_45 rfl rfl rfl rfl ?_
  refine ev_iload_n rfl rfl rfl ?_
  refine ev_aload_n rfl rfl rfl ?_
  refine ev_getI rfl rfl fl_X10_7 rfl rfl rfl ?_
  refine ev_iast (j := 42 * n) rfl rfl rfl rfl (vp_in_nI (by omega) (by decide)) (nI_clamp (by omega)) ?_
  refine ev_aload_n rfl rfl rfl ?_
  refine ev_getR rfl rfl fl_X10_45 rfl rfl rfl rfl ?_
  refine ev_iload_n rfl rfl rfl ?_
  refine ev_iconst (v := 1) rfl rfl (by decide) ?_
  refine ev_iadd rfl rfl ?_
  refine ev_aload_n rfl rfl rfl ?_
  refine ev_getI rfl rfl fl_X10_13 rfl rfl rfl ?_
  try simp (disch := omega) only [ev_rd1, ev_rd2, ev_rd3, ev_rc1, k_keep_ne]
  refine ev_iast (j := 42 * n + 1) rfl rfl rfl rfl (by rw [show nI (42 * n) + 1 = nI (42 * n + 1) from nI_add _ 1]; exact vp_in_nI (by omega) (by decide)) (by rw [show nI (42 * n) + 1 = nI (42 * n + 1) from nI_add _ 1]; exact nI_clamp (by omega)) ?_
  refine ev_aload_n rfl rfl rfl ?_
  refine ev_getR rfl rfl fl_X10_45 rfl rfl rfl rfl ?_
  refine ev_iload_n rfl rfl rfl ?_
  refine ev_iconst (v := 2) rfl rfl (by decide) ?_
  refine ev_iadd rfl rfl ?_
  refine ev_aload_n rfl rfl rfl ?_
  refine ev_getI rfl rfl fl_X10_16 rfl rfl rfl ?_
  try simp (disch := omega) only [ev_rd1, ev_rd2, ev_rd3, ev_rc1, k_keep_ne]
  refine ev_iast (j := 42 * n + 2) rfl rfl rfl rfl (by rw [show nI (42 * n) + 2 = nI (42 * n + 2) from nI_add _ 2]; exact vp_in_nI (by omega) (by decide)) (by rw [show nI (42 * n) + 2 = nI (42 * n + 2) from nI_add _ 2]; exact nI_clamp (by omega)) ?_
  refine ev_aload_n rfl rfl rfl ?_
  refine ev_getR rfl rfl fl_X10_45 rfl rfl rfl rfl ?_
  refine ev_iload_n rfl rfl rfl ?_
  refine ev_iconst (v := 3) rfl rfl (by decide) ?_
  refine ev_iadd rfl rfl ?_
  refine ev_aload_n rfl rfl rfl ?_
  refine ev_getI rfl rfl fl_X10_19 rfl rfl rfl ?_
  try simp (disch := omega) only [ev_rd1, ev_rd2, ev_rd3, ev_rc1, k_keep_ne]
  refine ev_iast (j := 42 * n + 3) rfl rfl rfl rfl (by rw [show nI (42 * n) + 3 = nI (42 * n + 3) from nI_add _ 3]; exact vp_in_nI (by omega) (by decide)) (by rw [show nI (42 * n) + 3 = nI (42 * n + 3) from nI_add _ 3]; exact nI_clamp (by omega)) ?_
  refine ev_aload_n rfl rfl rfl ?_
  refine ev_getR rfl rfl fl_X10_45 rfl rfl rfl rfl ?_
  refine ev_iload_n rfl rfl rfl ?_
  refine ev_iconst (v := 4) rfl rfl (by decide) ?_
  refine ev_iadd rfl rfl ?_
  refine ev_aload_n rfl rfl rfl ?_
  refine ev_getI rfl rfl fl_X10_131 rfl rfl rfl ?_
  try simp (disch := omega) only [ev_rd1, ev_rd2, ev_rd3, ev_rc1, k_keep_ne]
  refine ev_iast (j := 42 * n + 4) rfl rfl rfl rfl (by rw [show nI (42 * n) + 4 = nI (42 * n + 4) from nI_add _ 4]; exact vp_in_nI (by omega) (by decide)) (by rw [show nI (42 * n) + 4 = nI (42 * n + 4) from nI_add _ 4]; exact nI_clamp (by omega)) ?_
  refine ev_aload_n rfl rfl rfl ?_
  refine ev_getR rfl rfl fl_X10_45 rfl rfl rfl rfl ?_
  refine ev_iload_n rfl rfl rfl ?_
  refine ev_iconst (v := 5) rfl rfl (by decide) ?_
  refine ev_iadd rfl rfl ?_
  refine ev_aload_n rfl rfl rfl ?_
  refine ev_getI rfl rfl fl_X10_121 rfl rfl rfl ?_
  try simp (disch := omega) only [ev_rd1, ev_rd2, ev_rd3, ev_rc1, k_keep_ne]
  refine ev_iast (j := 42 * n + 5) rfl rfl rfl rfl (by rw [show nI (42 * n) + 5 = nI (42 * n + 5) from nI_add _ 5]; exact vp_in_nI (by omega) (by decide)) (by rw [show nI (42 * n) + 5 = nI (42 * n + 5) from nI_add _ 5]; exact nI_clamp (by omega)) ?_
  refine ev_iconst (v := 0) rfl rfl (by decide) ?_
  refine ev_istore_n rfl rfl rfl rfl ?_
  dsimp only [List.set]
  exact l_mkeeps L b h n hn hx 12 0 (by omega)

def k_mkp (h : Hp) : Hp := if h 63 13 = 10 then k_mkeep (ev_set (k_msh h 378) 63 13 9) 9 else k_mkeep h (h 63 13).toNatClampNeg

set_option maxRecDepth 100000 in
set_option maxHeartbeats 4000000 in
theorem c_mkp (L : Nat) (b : Bool) (h : Hp) (hB : Bx h) : EvU mi_X10_keeps [.ref 63] (G0 L b) h (k_mkp h) := by
  refine EvU.of (lo := [some (.ref 63), none, none]) pf_X10_keeps ok_X10_keeps rfl rfl ?_
  refine ev_aload_n rfl rfl rfl ?_
  refine ev_getI rfl rfl fl_X10_128 rfl rfl rfl ?_
  refine ev_bipush (v := 10) rfl rfl (by decide) ?_
  refine ev_icmp_ne rfl rfl (fun c_6 => ?_) (fun c_6 => ?_)
  · have p10 : B (h 63 13) 0 10 := hB 63 13
    have p9 : B (h 63 13) 0 ((9 : Nat) : Int) := R_neU p10 (by decide : B 10 10 10) c_6 (by decide)
    unfold k_mkp
    rw [if_neg c_6]
    exact c_mk50 L b h _ (by have := (B.nI p9).2; omega) (B.nI p9).1
  · refine ev_bipush (v := 42) rfl rfl (by decide) ?_
    refine ev_istore_n rfl rfl rfl rfl ?_
    dsimp only [List.set]
    have z_ : EvQ mi_X10_keeps 40 [some (.ref 63), none, none] [] (G0 L b) (k_msh h 378) 0 0 (fun v G' h' => v = none ∧ G' = G0 L b ∧ h' = k_mkp h) := by
      refine ev_aload_n rfl rfl rfl ?_
      refine ev_dup rfl rfl rfl ?_
      refine ev_getI rfl rfl fl_X10_128 rfl rfl rfl ?_
      rw [k_msh_ne (by decide), c_6]
      refine ev_iconst (v := 1) rfl rfl (by decide) ?_
      refine ev_isub rfl rfl ?_
      refine ev_putI rfl rfl fl_X10_128 rfl rfl rfl rfl rfl ?_
      unfold k_mkp
      rw [if_pos c_6]
      exact c_mk50 L b (ev_set (k_msh h 378) 63 13 9) 9 (by decide) (ev_rd1 _ _ _ _)
    have y_ := l_msh L b h _ 378 0 (by omega) z_
    rw [k_msh_0] at y_
    exact y_
theorem k_mkeep_o {h : Hp} {n i j : Nat} (h1 : i ≠ 71) (h2 : i ≠ 63) : k_mkeep h n i j = h i j := by
  unfold k_mkeep
  rw [ev_rd2 h2]
  exact k_mk_ne h1 12
theorem k_mkp_63 {h : Hp} {j : Nat} (hj : j ≠ 13) : k_mkp h 63 j = h 63 j := by
  unfold k_mkp
  split
  · rw [k_mkeep_63 hj, ev_rd3 hj, k_msh_ne (by decide)]
  · exact k_mkeep_63 hj
theorem k_mkp_o {h : Hp} {i j : Nat} (h1 : i ≠ 71) (h2 : i ≠ 63) : k_mkp h i j = h i j := by
  unfold k_mkp
  split
  · rw [k_mkeep_o h1 h2, ev_rd2 h2, k_msh_ne h1]
  · exact k_mkeep_o h1 h2
theorem c_misWh (L : Nat) (b : Bool) (h : Hp) (hB : Bx h) (w : Int32) : EvD mi_X10_isWhistle [.ref 63, .int w] (G0 L b) h (z_has w (h 63 5)) h := (c_misW L b h w).to (z_wi_has ((show B (h 63 5) 0 12 from hB 63 5).mono (by decide) (by decide))) rfl

def rmFi (h : Hp) (v : Int32) : Int32 := if z_wi v 0 9 = 0 then -1 else h 63 2
def kmFi (h : Hp) (v : Int32) : Hp := if z_wi v 0 9 = 0 then h else ev_set (k_mkp h) 63 2 v

set_option maxRecDepth 100000 in
set_option maxHeartbeats 4000000 in
theorem m_xfire (L : Nat) (b : Bool) (h : Hp) (hB : Bx h) (v : Int32) : EvD mi_X10_fire [.ref 63, .int v] (G0 L b) h (rmFi h v) (kmFi h v) := by
  refine EvD.of (lo := [some (.ref 63), some (.int v), none]) pf_X10_fire ok_X10_fire rfl rfl ?_
  refine ev_iload_n rfl rfl rfl ?_
  refine ev_i2l rfl rfl ?_
  refine ev_lconst (v := 0) rfl rfl rfl ?_
  refine ev_ldc2 rfl rfl kc_X10_134 ?_
  refine ev_S3D rfl rfl lk_X10_124 st_X10_in rfl rfl (c_inw _ _ _ (0) (9) (by decide) (by decide)) ?_
  refine ev_if_ne rfl rfl (fun c_9 => ?_) (fun c_9 => ?_)
  · refine ev_aload_n rfl rfl rfl ?_
    refine ev_V0U rfl rfl lk_X10_136 vt_X10_keeps rfl rfl rfl rfl rfl (c_mkp L b _ hB) ?_
    refine ev_aload_n rfl rfl rfl ?_
    refine ev_getI rfl rfl fl_X10_16 rfl rfl rfl ?_
    try simp (disch := decide) only [k_mkp_63, k_mkp_o, ev_rd1, ev_rd2, ev_rd3]
    refine ev_istore_n rfl rfl rfl rfl ?_
    dsimp only [List.set]
    refine ev_aload_n rfl rfl rfl ?_
    refine ev_iload_n rfl rfl rfl ?_
    refine ev_putI rfl rfl fl_X10_16 rfl rfl rfl rfl rfl ?_
    refine ev_iload_n rfl rfl rfl ?_
    exact ev_iret rfl rfl rfl (⟨congrArg (fun z => some (Value.int z)) (by simp only [rmFi, if_neg c_9]), rfl, by simp only [kmFi, if_neg c_9]⟩)
  · refine ev_iconst (v := (-1)) rfl rfl (by decide) ?_
    exact ev_iret rfl rfl rfl (⟨congrArg (fun z => some (Value.int z)) (by simp only [rmFi, if_pos c_9]), rfl, by simp only [kmFi, if_pos c_9]⟩)

def rmWa (h : Hp) (v : Int32) : Int32 := if z_wi v 1 9999 = 0 then -1 else z_cap (h 63 1 + v)
def kmWa (h : Hp) (v : Int32) : Hp := if z_wi v 1 9999 = 0 then h else ev_set (k_mkp h) 63 1 (z_cap (h 63 1 + v))

set_option maxRecDepth 100000 in
set_option maxHeartbeats 4000000 in
theorem m_xwater (L : Nat) (b : Bool) (h : Hp) (hB : Bx h) (v : Int32) : EvD mi_X10_water [.ref 63, .int v] (G0 L b) h (rmWa h v) (kmWa h v) := by
  refine EvD.of (lo := [some (.ref 63), some (.int v)]) pf_X10_water ok_X10_water rfl rfl ?_
  refine ev_iload_n rfl rfl rfl ?_
  refine ev_i2l rfl rfl ?_
  refine ev_lconst (v := 1) rfl rfl rfl ?_
  refine ev_ldc2 rfl rfl kc_X10_139 ?_
  refine ev_S3D rfl rfl lk_X10_124 st_X10_in rfl rfl (c_inw _ _ _ (1) (9999) (by decide) (by decide)) ?_
  refine ev_if_ne rfl rfl (fun c_9 => ?_) (fun c_9 => ?_)
  · refine ev_aload_n rfl rfl rfl ?_
    refine ev_V0U rfl rfl lk_X10_136 vt_X10_keeps rfl rfl rfl rfl rfl (c_mkp L b _ hB) ?_
    refine ev_aload_n rfl rfl rfl ?_
    refine ev_aload_n rfl rfl rfl ?_
    refine ev_getI rfl rfl fl_X10_13 rfl rfl rfl ?_
    try simp (disch := decide) only [k_mkp_63, k_mkp_o, ev_rd1, ev_rd2, ev_rd3]
    refine ev_iload_n rfl rfl rfl ?_
    refine ev_iadd rfl rfl ?_
    refine ev_sipush (v := 9999) rfl rfl (by decide) ?_
    refine ev_icmp_le rfl rfl (fun c_28 => ?_) (fun c_28 => ?_)
    · refine ev_aload_n rfl rfl rfl ?_
      refine ev_getI rfl rfl fl_X10_13 rfl rfl rfl ?_
      try simp (disch := decide) only [k_mkp_63, k_mkp_o, ev_rd1, ev_rd2, ev_rd3]
      refine ev_iload_n rfl rfl rfl ?_
      refine ev_iadd rfl rfl ?_
      refine ev_putI rfl rfl fl_X10_13 rfl rfl rfl rfl rfl ?_
      refine ev_aload_n rfl rfl rfl ?_
      refine ev_getI rfl rfl fl_X10_13 rfl rfl rfl ?_
      try simp (disch := decide) only [k_mkp_63, k_mkp_o, ev_rd1, ev_rd2, ev_rd3]
      exact ev_iret rfl rfl rfl (⟨congrArg (fun z => some (Value.int z)) (by simp only [rmWa, z_cap, if_neg c_9, if_pos c_28]), rfl, by simp only [kmWa, z_cap, if_neg c_9, if_pos c_28]⟩)
    · refine ev_sipush (v := 9999) rfl rfl (by decide) ?_
      refine ev_goto rfl rfl ?_
      refine ev_putI rfl rfl fl_X10_13 rfl rfl rfl rfl rfl ?_
      refine ev_aload_n rfl rfl rfl ?_
      refine ev_getI rfl rfl fl_X10_13 rfl rfl rfl ?_
      try simp (disch := decide) only [k_mkp_63, k_mkp_o, ev_rd1, ev_rd2, ev_rd3]
      exact ev_iret rfl rfl rfl (⟨congrArg (fun z => some (Value.int z)) (by simp only [rmWa, z_cap, if_neg c_9, if_neg c_28]), rfl, by simp only [kmWa, z_cap, if_neg c_9, if_neg c_28]⟩)
  · refine ev_iconst (v := (-1)) rfl rfl (by decide) ?_
    exact ev_iret rfl rfl rfl (⟨congrArg (fun z => some (Value.int z)) (by simp only [rmWa, z_cap, if_pos c_9]), rfl, by simp only [kmWa, z_cap, if_pos c_9]⟩)

def rmVa (h : Hp) (v : Int32) : Int32 := if z_wi v 50 200 = 0 then -1 else h 63 3
def kmVa (h : Hp) (v : Int32) : Hp := if z_wi v 50 200 = 0 then h else ev_set (ev_set (k_mkp h) 63 3 v) 63 0 (if h 63 0 ≤ v then h 63 0 else v)

set_option maxRecDepth 100000 in
set_option maxHeartbeats 4000000 in
theorem m_xvalve (L : Nat) (b : Bool) (h : Hp) (hB : Bx h) (v : Int32) : EvD mi_X10_valve [.ref 63, .int v] (G0 L b) h (rmVa h v) (kmVa h v) := by
  refine EvD.of (lo := [some (.ref 63), some (.int v), none]) pf_X10_valve ok_X10_valve rfl rfl ?_
  refine ev_iload_n rfl rfl rfl ?_
  refine ev_i2l rfl rfl ?_
  refine ev_ldc2 rfl rfl kc_X10_141 ?_
  refine ev_ldc2 rfl rfl kc_X10_143 ?_
  refine ev_S3D rfl rfl lk_X10_124 st_X10_in rfl rfl (c_inw _ _ _ (50) (200) (by decide) (by decide)) ?_
  refine ev_if_ne rfl rfl (fun c_11 => ?_) (fun c_11 => ?_)
  · refine ev_aload_n rfl rfl rfl ?_
    refine ev_V0U rfl rfl lk_X10_136 vt_X10_keeps rfl rfl rfl rfl rfl (c_mkp L b _ hB) ?_
    refine ev_aload_n rfl rfl rfl ?_
    refine ev_getI rfl rfl fl_X10_19 rfl rfl rfl ?_
    try simp (disch := decide) only [k_mkp_63, k_mkp_o, ev_rd1, ev_rd2, ev_rd3]
    refine ev_istore_n rfl rfl rfl rfl ?_
    dsimp only [List.set]
    refine ev_aload_n rfl rfl rfl ?_
    refine ev_iload_n rfl rfl rfl ?_
    refine ev_putI rfl rfl fl_X10_19 rfl rfl rfl rfl rfl ?_
    refine ev_aload_n rfl rfl rfl ?_
    refine ev_aload_n rfl rfl rfl ?_
    refine ev_getI rfl rfl fl_X10_7 rfl rfl rfl ?_
    try simp (disch := decide) only [k_mkp_63, k_mkp_o, ev_rd1, ev_rd2, ev_rd3]
    refine ev_iload_n rfl rfl rfl ?_
    refine ev_icmp_le rfl rfl (fun c_36 => ?_) (fun c_36 => ?_)
    · refine ev_aload_n rfl rfl rfl ?_
      refine ev_getI rfl rfl fl_X10_7 rfl rfl rfl ?_
      try simp (disch := decide) only [k_mkp_63, k_mkp_o, ev_rd1, ev_rd2, ev_rd3]
      refine ev_putI rfl rfl fl_X10_7 rfl rfl rfl rfl rfl ?_
      refine ev_iload_n rfl rfl rfl ?_
      exact ev_iret rfl rfl rfl (⟨congrArg (fun z => some (Value.int z)) (by simp only [rmVa, if_neg c_11, if_pos c_36]), rfl, by simp only [kmVa, if_neg c_11, if_pos c_36]⟩)
    · refine ev_iload_n rfl rfl rfl ?_
      refine ev_goto rfl rfl ?_
      refine ev_putI rfl rfl fl_X10_7 rfl rfl rfl rfl rfl ?_
      refine ev_iload_n rfl rfl rfl ?_
      exact ev_iret rfl rfl rfl (⟨congrArg (fun z => some (Value.int z)) (by simp only [rmVa, if_neg c_11, if_neg c_36]), rfl, by simp only [kmVa, if_neg c_11, if_neg c_36]⟩)
  · refine ev_iconst (v := (-1)) rfl rfl (by decide) ?_
    exact ev_iret rfl rfl rfl (⟨congrArg (fun z => some (Value.int z)) (by simp only [rmVa, if_pos c_11]), rfl, by simp only [kmVa, if_pos c_11]⟩)

def rmPr (h : Hp) (v : Int32) : Int32 := if z_wi v 0 (h 63 3) = 0 then -1 else h 63 0
def kmPr (h : Hp) (v : Int32) : Hp := if z_wi v 0 (h 63 3) = 0 then h else ev_set (k_mkp h) 63 0 v

set_option maxRecDepth 100000 in
set_option maxHeartbeats 4000000 in
theorem m_xpressure (L : Nat) (b : Bool) (h : Hp) (hB : Bx h) (v : Int32) : EvD mi_X10_pressure [.ref 63, .int v] (G0 L b) h (rmPr h v) (kmPr h v) := by
  refine EvD.of (lo := [some (.ref 63), some (.int v), none]) pf_X10_pressure ok_X10_pressure rfl rfl ?_
  refine ev_iload_n rfl rfl rfl ?_
  refine ev_i2l rfl rfl ?_
  refine ev_lconst (v := 0) rfl rfl rfl ?_
  refine ev_aload_n rfl rfl rfl ?_
  refine ev_getI rfl rfl fl_X10_19 rfl rfl rfl ?_
  refine ev_i2l rfl rfl ?_
  refine ev_S3D rfl rfl lk_X10_124 st_X10_in rfl rfl (c_inw _ _ _ (0) (h 63 3) (by decide) rfl) ?_
  refine ev_if_ne rfl rfl (fun c_11 => ?_) (fun c_11 => ?_)
  · refine ev_aload_n rfl rfl rfl ?_
    refine ev_V0U rfl rfl lk_X10_136 vt_X10_keeps rfl rfl rfl rfl rfl (c_mkp L b _ hB) ?_
    refine ev_aload_n rfl rfl rfl ?_
    refine ev_getI rfl rfl fl_X10_7 rfl rfl rfl ?_
    try simp (disch := decide) only [k_mkp_63, k_mkp_o, ev_rd1, ev_rd2, ev_rd3]
    refine ev_istore_n rfl rfl rfl rfl ?_
    dsimp only [List.set]
    refine ev_aload_n rfl rfl rfl ?_
    refine ev_iload_n rfl rfl rfl ?_
    refine ev_putI rfl rfl fl_X10_7 rfl rfl rfl rfl rfl ?_
    refine ev_iload_n rfl rfl rfl ?_
    exact ev_iret rfl rfl rfl (⟨congrArg (fun z => some (Value.int z)) (by simp only [rmPr, if_neg c_11]), rfl, by simp only [kmPr, if_neg c_11]⟩)
  · refine ev_iconst (v := (-1)) rfl rfl (by decide) ?_
    exact ev_iret rfl rfl rfl (⟨congrArg (fun z => some (Value.int z)) (by simp only [rmPr, if_pos c_11]), rfl, by simp only [kmPr, if_pos c_11]⟩)

def rmSt_ (h : Hp) (w v : Int32) : Int32 := if z_has w (h 63 5) = 0 then -10000 else if z_wi v (-100) 100 = 0 then -10000 else if h 67 w.toNatClampNeg = 0 then h 68 w.toNatClampNeg else -10002
def kmSt_ (h : Hp) (w v : Int32) : Hp := if z_has w (h 63 5) = 0 then h else if z_wi v (-100) 100 = 0 then h else if h 67 w.toNatClampNeg = 0 then ev_set (k_mkp h) 68 w.toNatClampNeg v else h

set_option maxRecDepth 100000 in
set_option maxHeartbeats 4000000 in
theorem m_xstem (L : Nat) (b : Bool) (h : Hp) (hB : Bx h) (w v : Int32) : EvD mi_X10_stem [.ref 63, .int w, .int v] (G0 L b) h (rmSt_ h w v) (kmSt_ h w v) := by
  refine EvD.of (lo := [some (.ref 63), some (.int w), some (.int v), none]) pf_X10_stem ok_X10_stem rfl rfl ?_
  refine ev_aload_n rfl rfl rfl ?_
  refine ev_iload_n rfl rfl rfl ?_
  refine ev_V1D rfl rfl lk_X10_169 vt_X10_isWhistle rfl rfl rfl rfl rfl (c_misWh L b h hB _) ?_
  refine ev_if_eq rfl rfl (fun c_5 => ?_) (fun c_5 => ?_)
  · refine ev_sipush (v := (-10000)) rfl rfl (by decide) ?_
    exact ev_iret rfl rfl rfl (⟨congrArg (fun z => some (Value.int z)) (by simp only [rmSt_, if_pos c_5]), rfl, by simp only [kmSt_, if_pos c_5]⟩)
  · refine ev_iload_n rfl rfl rfl ?_
    refine ev_i2l rfl rfl ?_
    refine ev_ldc2 rfl rfl kc_X10_175 ?_
    refine ev_ldc2 rfl rfl kc_X10_177 ?_
    refine ev_S3D rfl rfl lk_X10_124 st_X10_in rfl rfl (c_inw _ _ _ (-100) (100) (by decide) (by decide)) ?_
    refine ev_if_ne rfl rfl (fun c_19 => ?_) (fun c_19 => ?_)
    · obtain ⟨j, hj, rfl⟩ := z_hask (B.nI (u := 12) (hB 63 5)).1 (B.nI (u := 12) (hB 63 5)).2 (by decide) c_5
      have hj12 := (B.nI (u := 12) (hB 63 5)).2
      have ej := nI_clamp (show j < 2 ^ 31 by omega)
      refine ev_aload_n rfl rfl rfl ?_
      refine ev_getR rfl rfl fl_X10_32 rfl rfl rfl rfl ?_
      refine ev_iload_n rfl rfl rfl ?_
      refine ev_zald rfl rfl rfl (vp_in_nI (by omega) (by decide)) (nI_clamp (by omega)) ?_
      try simp (disch := decide) only [k_mkp_63, k_mkp_o, ev_rd1, ev_rd2, ev_rd3]
      refine ev_if_eq rfl rfl (fun c_32 => ?_) (fun c_32 => ?_)
      · refine ev_aload_n rfl rfl rfl ?_
        refine ev_V0U rfl rfl lk_X10_136 vt_X10_keeps rfl rfl rfl rfl rfl (c_mkp L b _ hB) ?_
        refine ev_aload_n rfl rfl rfl ?_
        refine ev_getR rfl rfl fl_X10_36 rfl rfl rfl rfl ?_
        refine ev_iload_n rfl rfl rfl ?_
        refine ev_iald rfl rfl rfl (vp_in_nI (by omega) (by decide)) (nI_clamp (by omega)) ?_
        try simp (disch := decide) only [k_mkp_63, k_mkp_o, ev_rd1, ev_rd2, ev_rd3]
        refine ev_istore_n rfl rfl rfl rfl ?_
        dsimp only [List.set]
        refine ev_aload_n rfl rfl rfl ?_
        refine ev_getR rfl rfl fl_X10_36 rfl rfl rfl rfl ?_
        refine ev_iload_n rfl rfl rfl ?_
        refine ev_iload_n rfl rfl rfl ?_
        refine ev_iast rfl rfl rfl rfl (vp_in_nI (by omega) (by decide)) (nI_clamp (by omega)) ?_
        refine ev_iload_n rfl rfl rfl ?_
        exact ev_iret rfl rfl rfl (⟨congrArg (fun z => some (Value.int z)) (by simp only [rmSt_, if_neg c_5, if_neg c_19, if_pos c_32, ej]), rfl, by simp only [kmSt_, if_neg c_5, if_neg c_19, if_pos c_32, ej]⟩)
      · refine ev_sipush (v := (-10002)) rfl rfl (by decide) ?_
        exact ev_iret rfl rfl rfl (⟨congrArg (fun z => some (Value.int z)) (by simp only [rmSt_, if_neg c_5, if_neg c_19, if_neg c_32, ej]), rfl, by simp only [kmSt_, if_neg c_5, if_neg c_19, if_neg c_32, ej]⟩)
    · refine ev_sipush (v := (-10000)) rfl rfl (by decide) ?_
      exact ev_iret rfl rfl rfl (⟨congrArg (fun z => some (Value.int z)) (by simp only [rmSt_, if_neg c_5, if_pos c_19]), rfl, by simp only [kmSt_, if_neg c_5, if_pos c_19]⟩)

def rmCr (h : Hp) (w v : Int32) : Int32 := if z_has w (h 63 5) = 0 then -10000 else if z_wi v (-200) 200 = 0 then -10000 else h 69 w.toNatClampNeg
def kmCr (h : Hp) (w v : Int32) : Hp := if z_has w (h 63 5) = 0 then h else if z_wi v (-200) 200 = 0 then h else ev_set (k_mkp h) 69 w.toNatClampNeg v

set_option maxRecDepth 100000 in
set_option maxHeartbeats 4000000 in
theorem m_xcrack (L : Nat) (b : Bool) (h : Hp) (hB : Bx h) (w v : Int32) : EvD mi_X10_crack [.ref 63, .int w, .int v] (G0 L b) h (rmCr h w v) (kmCr h w v) := by
  refine EvD.of (lo := [some (.ref 63), some (.int w), some (.int v), none]) pf_X10_crack ok_X10_crack rfl rfl ?_
  refine ev_aload_n rfl rfl rfl ?_
  refine ev_iload_n rfl rfl rfl ?_
  refine ev_V1D rfl rfl lk_X10_169 vt_X10_isWhistle rfl rfl rfl rfl rfl (c_misWh L b h hB _) ?_
  refine ev_if_eq rfl rfl (fun c_5 => ?_) (fun c_5 => ?_)
  · refine ev_sipush (v := (-10000)) rfl rfl (by decide) ?_
    exact ev_iret rfl rfl rfl (⟨congrArg (fun z => some (Value.int z)) (by simp only [rmCr, if_pos c_5]), rfl, by simp only [kmCr, if_pos c_5]⟩)
  · refine ev_iload_n rfl rfl rfl ?_
    refine ev_i2l rfl rfl ?_
    refine ev_ldc2 rfl rfl kc_X10_179 ?_
    refine ev_ldc2 rfl rfl kc_X10_143 ?_
    refine ev_S3D rfl rfl lk_X10_124 st_X10_in rfl rfl (c_inw _ _ _ (-200) (200) (by decide) (by decide)) ?_
    refine ev_if_ne rfl rfl (fun c_19 => ?_) (fun c_19 => ?_)
    · obtain ⟨j, hj, rfl⟩ := z_hask (B.nI (u := 12) (hB 63 5)).1 (B.nI (u := 12) (hB 63 5)).2 (by decide) c_5
      have hj12 := (B.nI (u := 12) (hB 63 5)).2
      have ej := nI_clamp (show j < 2 ^ 31 by omega)
      refine ev_aload_n rfl rfl rfl ?_
      refine ev_V0U rfl rfl lk_X10_136 vt_X10_keeps rfl rfl rfl rfl rfl (c_mkp L b _ hB) ?_
      refine ev_aload_n rfl rfl rfl ?_
      refine ev_getR rfl rfl fl_X10_39 rfl rfl rfl rfl ?_
      refine ev_iload_n rfl rfl rfl ?_
      refine ev_iald rfl rfl rfl (vp_in_nI (by omega) (by decide)) (nI_clamp (by omega)) ?_
      try simp (disch := decide) only [k_mkp_63, k_mkp_o, ev_rd1, ev_rd2, ev_rd3]
      refine ev_istore_n rfl rfl rfl rfl ?_
      dsimp only [List.set]
      refine ev_aload_n rfl rfl rfl ?_
      refine ev_getR rfl rfl fl_X10_39 rfl rfl rfl rfl ?_
      refine ev_iload_n rfl rfl rfl ?_
      refine ev_iload_n rfl rfl rfl ?_
      refine ev_iast rfl rfl rfl rfl (vp_in_nI (by omega) (by decide)) (nI_clamp (by omega)) ?_
      refine ev_iload_n rfl rfl rfl ?_
      exact ev_iret rfl rfl rfl (⟨congrArg (fun z => some (Value.int z)) (by simp only [rmCr, if_neg c_5, if_neg c_19, ej]), rfl, by simp only [kmCr, if_neg c_5, if_neg c_19, ej]⟩)
    · refine ev_sipush (v := (-10000)) rfl rfl (by decide) ?_
      exact ev_iret rfl rfl rfl (⟨congrArg (fun z => some (Value.int z)) (by simp only [rmCr, if_neg c_5, if_pos c_19]), rfl, by simp only [kmCr, if_neg c_5, if_pos c_19]⟩)

def rmLk (h : Hp) (w : Int32) : Int32 := if z_has w (h 63 5) = 0 then -1 else if h 70 w.toNatClampNeg = 0 then 0 else 1
def kmLk (h : Hp) (w q : Int32) : Hp := if z_has w (h 63 5) = 0 then h else ev_set (k_mkp h) 70 w.toNatClampNeg q

set_option maxRecDepth 100000 in
set_option maxHeartbeats 4000000 in
theorem m_xleak (L : Nat) (b : Bool) (h : Hp) (hB : Bx h) (w q : Int32) (hq : q = 0 ∨ q = 1) : EvD mi_X10_leak [.ref 63, .int w, .int q] (G0 L b) h (rmLk h w) (kmLk h w q) := by
  refine EvD.of (lo := [some (.ref 63), some (.int w), some (.int q), none]) pf_X10_leak ok_X10_leak rfl rfl ?_
  refine ev_aload_n rfl rfl rfl ?_
  refine ev_iload_n rfl rfl rfl ?_
  refine ev_V1D rfl rfl lk_X10_169 vt_X10_isWhistle rfl rfl rfl rfl rfl (c_misWh L b h hB _) ?_
  refine ev_if_ne rfl rfl (fun c_5 => ?_) (fun c_5 => ?_)
  · obtain ⟨j, hj, rfl⟩ := z_hask (B.nI (u := 12) (hB 63 5)).1 (B.nI (u := 12) (hB 63 5)).2 (by decide) c_5
    have hj12 := (B.nI (u := 12) (hB 63 5)).2
    have ej := nI_clamp (show j < 2 ^ 31 by omega)
    refine ev_aload_n rfl rfl rfl ?_
    refine ev_V0U rfl rfl lk_X10_136 vt_X10_keeps rfl rfl rfl rfl rfl (c_mkp L b _ hB) ?_
    refine ev_aload_n rfl rfl rfl ?_
    refine ev_getR rfl rfl fl_X10_42 rfl rfl rfl rfl ?_
    refine ev_iload_n rfl rfl rfl ?_
    refine ev_zald rfl rfl rfl (vp_in_nI (by omega) (by decide)) (nI_clamp (by omega)) ?_
    try simp (disch := decide) only [k_mkp_63, k_mkp_o, ev_rd1, ev_rd2, ev_rd3]
    refine ev_if_eq rfl rfl (fun c_20 => ?_) (fun c_20 => ?_)
    · refine ev_iconst (v := 0) rfl rfl (by decide) ?_
      refine ev_istore_n rfl rfl rfl rfl ?_
      dsimp only [List.set]
      refine ev_aload_n rfl rfl rfl ?_
      refine ev_getR rfl rfl fl_X10_42 rfl rfl rfl rfl ?_
      refine ev_iload_n rfl rfl rfl ?_
      refine ev_iload_n rfl rfl rfl ?_
      refine ev_zast rfl rfl rfl rfl (vp_in_nI (by omega) (by decide)) (nI_clamp (by omega)) hq ?_
      refine ev_iload_n rfl rfl rfl ?_
      exact ev_iret rfl rfl rfl (⟨congrArg (fun z => some (Value.int z)) (by simp only [rmLk, if_neg c_5, if_pos c_20, ej]), rfl, by simp only [kmLk, if_neg c_5, if_pos c_20, ej]⟩)
    · refine ev_iconst (v := 1) rfl rfl (by decide) ?_
      refine ev_goto rfl rfl ?_
      refine ev_istore_n rfl rfl rfl rfl ?_
      dsimp only [List.set]
      refine ev_aload_n rfl rfl rfl ?_
      refine ev_getR rfl rfl fl_X10_42 rfl rfl rfl rfl ?_
      refine ev_iload_n rfl rfl rfl ?_
      refine ev_iload_n rfl rfl rfl ?_
      refine ev_zast rfl rfl rfl rfl (vp_in_nI (by omega) (by decide)) (nI_clamp (by omega)) hq ?_
      refine ev_iload_n rfl rfl rfl ?_
      exact ev_iret rfl rfl rfl (⟨congrArg (fun z => some (Value.int z)) (by simp only [rmLk, if_neg c_5, if_neg c_20, ej]), rfl, by simp only [kmLk, if_neg c_5, if_neg c_20, ej]⟩)
  · refine ev_iconst (v := (-1)) rfl rfl (by decide) ?_
    exact ev_iret rfl rfl rfl (⟨congrArg (fun z => some (Value.int z)) (by simp only [rmLk, if_pos c_5]), rfl, by simp only [kmLk, if_pos c_5]⟩)

theorem s_md_cg {h h1 : Hp} (e1 : ∀ k, h1 65 k = h 65 k) (e2 : ∀ k, h1 70 k = h 70 k) (c : Int32) : ∀ m, s_md h1 c m = s_md h c m
  | 0 => rfl
  | m + 1 => by unfold s_md; rw [e1 m, e2 m, s_md_cg e1 e2 c m]
theorem o_moff_cg {h h1 : Hp} (e1 : ∀ k, h1 66 k = h 66 k) (e2 : ∀ k, h1 68 k = h 68 k) (e3 : ∀ k, h1 69 k = h 69 k) (w : Nat) (p : Int32) : o_moff h1 w p = o_moff h w p := by
  unfold o_moff
  rw [e1, e2, e3]
theorem s_ms_cg {h h1 : Hp} (e1 : ∀ k, h1 66 k = h 66 k) (e2 : ∀ k, h1 68 k = h 68 k) (e3 : ∀ k, h1 69 k = h 69 k) (c p : Int32) : ∀ m, s_ms h1 c p m = s_ms h c p m
  | 0 => rfl
  | m + 1 => by unfold s_ms; rw [o_moff_cg e1 e2 e3, s_ms_cg e1 e2 e3 c p m]
def z_inA (c n : Int32) : Int32 := z_wi c 0 (1 <<< (n &&& 31) - 1)
def rmBe (h : Hp) (m : Nat) (c : Int32) : Int32 := if z_inA c (h 63 5) = 0 then -1 else if s_md h c m ≤ h 63 1 then s_ms h c (h 63 0) m else -5
def kmBe (h : Hp) (m : Nat) (c : Int32) : Hp := if z_inA c (h 63 5) = 0 then h else if s_md h c m ≤ h 63 1 then k_mg (k_mkp h) (g_0 (h 63 0) (h 63 1) (h 63 2) (h 63 3) (s_md h c m)) (g_1 (h 63 0) (h 63 1) (h 63 2) (h 63 3) (s_md h c m)) (g_4 (h 63 0) (h 63 1) (h 63 2) (h 63 3) (s_md h c m) (h 63 4)) else h
theorem mkp_goes {h : Hp} {m : Nat} {c : Int32} (q : s_md h c m ≤ h 63 1) : r_mgo (k_mkp h) m c = s_ms h c (h 63 0) m ∧ k_mgo (k_mkp h) m c = k_mg (k_mkp h) (g_0 (h 63 0) (h 63 1) (h 63 2) (h 63 3) (s_md h c m)) (g_1 (h 63 0) (h 63 1) (h 63 2) (h 63 3) (s_md h c m)) (g_4 (h 63 0) (h 63 1) (h 63 2) (h 63 3) (s_md h c m) (h 63 4)) := by
  have d : s_md (k_mkp h) c m = s_md h c m := s_md_cg (fun k => k_mkp_o (by decide) (by decide)) (fun k => k_mkp_o (by decide) (by decide)) c m
  have s : s_ms (k_mkp h) c (h 63 0) m = s_ms h c (h 63 0) m := s_ms_cg (fun k => k_mkp_o (by decide) (by decide)) (fun k => k_mkp_o (by decide) (by decide)) (fun k => k_mkp_o (by decide) (by decide)) c _ m
  unfold r_mgo k_mgo
  rw [d, k_mkp_63 (by decide), k_mkp_63 (by decide), k_mkp_63 (by decide), k_mkp_63 (by decide), k_mkp_63 (by decide), if_pos q, if_pos q, s]
  exact ⟨rfl, rfl⟩

set_option maxRecDepth 100000 in
set_option maxHeartbeats 4000000 in
theorem m_xbeat (L : Nat) (b : Bool) (h : Hp) (hB : Bx h) (hBk : Bx (k_mkp h)) (m : Nat) (hm0 : m ≤ 12) (hm : h 63 5 = nI m) (c : Int32) (hd : 0 ≤ (s_md h c m).toInt) : EvD mi_X10_beat [.ref 63, .int c] (G0 L b) h (rmBe h m c) (kmBe h m c) := by
  refine EvD.of (lo := [some (.ref 63), some (.int c)]) pf_X10_beat ok_X10_beat rfl rfl ?_
  refine ev_iload_n rfl rfl rfl ?_
  refine ev_i2l rfl rfl ?_
  refine ev_lconst (v := 0) rfl rfl rfl ?_
  refine ev_iconst (v := 1) rfl rfl (by decide) ?_
  refine ev_aload_n rfl rfl rfl ?_
  refine ev_getI rfl rfl fl_X10_121 rfl rfl rfl ?_
  refine ev_ishl rfl rfl ?_
  refine ev_iconst (v := 1) rfl rfl (by decide) ?_
  refine ev_isub rfl rfl ?_
  refine ev_i2l rfl rfl ?_
  refine ev_S3D rfl rfl lk_X10_124 st_X10_in rfl rfl (c_inw _ _ _ (0) (1 <<< (h 63 5 &&& 31) - 1) (by decide) rfl) ?_
  rw [show z_wi c 0 (1 <<< (h 63 5 &&& 31) - 1) = z_inA c (h 63 5) from rfl]
  refine ev_if_ne rfl rfl (fun c_15 => ?_) (fun c_15 => ?_)
  · refine ev_aload_n rfl rfl rfl ?_
    refine ev_iload_n rfl rfl rfl ?_
    refine ev_V1D rfl rfl lk_X10_145 vt_X10_drawn rfl rfl rfl rfl rfl (c_mdrawn L b h m hm0 hm c) ?_
    refine ev_aload_n rfl rfl rfl ?_
    refine ev_getI rfl rfl fl_X10_13 rfl rfl rfl ?_
    refine ev_icmp_le rfl rfl (fun c_29 => ?_) (fun c_29 => ?_)
    · refine ev_aload_n rfl rfl rfl ?_
      refine ev_V0U rfl rfl lk_X10_136 vt_X10_keeps rfl rfl rfl rfl rfl (c_mkp L b h hB) ?_
      refine ev_aload_n rfl rfl rfl ?_
      refine ev_iload_n rfl rfl rfl ?_
      refine ev_V1D rfl rfl lk_X10_162 vt_X10_goes rfl rfl rfl rfl rfl (show EvD mi_X10_goes _ _ _ (s_ms h c (h 63 0) m) _ from EvD.to (c_mgoes L b (k_mkp h) m hm0 ((k_mkp_63 (by decide)).trans hm) hBk c (by rw [s_md_cg (fun k => k_mkp_o (by decide) (by decide)) (fun k => k_mkp_o (by decide) (by decide))]; exact hd)) (mkp_goes c_29).1 (mkp_goes c_29).2) ?_
      exact ev_iret rfl rfl rfl (⟨congrArg (fun z => some (Value.int z)) (by simp only [rmBe, if_neg c_15, if_pos c_29]), rfl, by simp only [kmBe, if_neg c_15, if_pos c_29]⟩)
    · refine ev_bipush (v := (-5)) rfl rfl (by decide) ?_
      exact ev_iret rfl rfl rfl (⟨congrArg (fun z => some (Value.int z)) (by simp only [rmBe, if_neg c_15, if_neg c_29]), rfl, by simp only [kmBe, if_neg c_15, if_neg c_29]⟩)
  · refine ev_iconst (v := (-1)) rfl rfl (by decide) ?_
    exact ev_iret rfl rfl rfl (⟨congrArg (fun z => some (Value.int z)) (by simp only [rmBe, if_pos c_15]), rfl, by simp only [kmBe, if_pos c_15]⟩)

