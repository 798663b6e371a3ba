def z_cl1 (v : Int32) : Int32 := if v ≤ 100 then (if -100 ≤ v then v else -100) else 100
def k_mn1 (h : Hp) (p : Int32) (i : Nat) : Int32 := if h 67 i = 0 then z_cl1 (h 68 i - o_moff h i p) else h 68 i
def k_mn (h : Hp) (p : Int32) (m : Nat) : Hp := fun i j => if i = 68 ∧ j < m then k_mn1 h p j else h i j
def o_mn (h : Hp) (p : Int32) (k : Nat) : Int32 := k_mn1 h p k + h 69 k + z_dn (h 66 k * (p - 100)) 10
def s_many (h : Hp) (p : Int32) : Nat → Int32
  | 0 => 0
  | k + 1 => if o_mn h p k = 0 then s_many h p k + 0 else s_many h p k + 1
theorem k_mn_0 (h : Hp) (p : Int32) : k_mn h p 0 = h := by
  funext i j
  exact if_neg (fun q => Nat.not_lt_zero _ q.2)
theorem k_mn_ne {h : Hp} {p : Int32} {m i j : Nat} (hi : i ≠ 68) : k_mn h p m i j = h i j := if_neg (fun q => hi q.1)
theorem k_mn_ge {h : Hp} {p : Int32} {m j : Nat} (hj : m ≤ j) : k_mn h p m 68 j = h 68 j := if_neg (fun q => Nat.not_lt.mpr hj q.2)
theorem k_mn_lt {h : Hp} {p : Int32} {m j : Nat} (hj : j < m) : k_mn h p m 68 j = k_mn1 h p j := if_pos ⟨rfl, hj⟩
theorem k_mn_s (h : Hp) (p : Int32) (m : Nat) : k_mn h p (m + 1) = ev_set (k_mn h p m) 68 m (k_mn1 h p m) := by
  funext i j
  simp only [k_mn, ev_set]
  by_cases h1 : i = 68
  · subst h1
    by_cases h2 : j = m
    · subst h2; simp
    · by_cases h3 : j < m
      · simp [h2, h3, Nat.lt_succ_of_lt h3]
      · simp [h2, h3, show ¬ j < m + 1 by omega]
  · simp [h1]
theorem k_mn_off (h : Hp) (p : Int32) (m : Nat) : o_moff (k_mn h p m) m p = o_moff h m p := by
  unfold o_moff
  rw [k_mn_ge (Nat.le_refl m), k_mn_ne (by decide), k_mn_ne (by decide)]
theorem k_mn_o {h : Hp} {p : Int32} {m k : Nat} (hk : k < m) : o_moff (k_mn h p m) k p = o_mn h p k := by
  unfold o_moff o_mn
  rw [k_mn_lt hk, k_mn_ne (by decide), k_mn_ne (by decide)]

set_option maxRecDepth 100000 in
set_option maxHeartbeats 4000000 in
theorem l_mtune (L : Nat) (b : Bool) (h : Hp) (m : Nat) (hm0 : m ≤ 12) (hm : h 63 5 = nI m) (p : Int32) : ∀ t i : Nat, i + t = m → EvQ mi_X10_tuneAll 22 [some (.ref 63), some (.int p), some (.int (s_many h p i)), some (.int (nI i)), none] [] (G0 L b) (k_mn h p i) 0 0 (fun v G' h' => v = some (.int (s_many h p m)) ∧ G' = G0 L b ∧ h' = k_mn h p m) := by
  intro t
  induction t with
  | zero =>
    intro i hi
    have hi2 : i = m := by omega
    subst hi2
    refine ev_iload_n rfl rfl rfl ?_
    refine ev_aload_n rfl rfl rfl ?_
    refine ev_getI rfl rfl fl_X10_121 rfl rfl rfl ?_
    try simp (disch := omega) only [k_mn_ne, k_mn_ge]
    try simp (disch := omega) only [k_mn_ne, k_mn_ge]
    refine ev_icmp_ge rfl rfl (fun c_27 => ?_) (fun z_ => absurd (by rw [hm]; exact Int32.le_refl _) z_)
    refine ev_iload_n rfl rfl rfl ?_
    exact ev_iret rfl rfl rfl (⟨rfl, rfl, rfl⟩)
  | succ t ih =>
    intro i hi
    refine ev_iload_n rfl rfl rfl ?_
    refine ev_aload_n rfl rfl rfl ?_
    refine ev_getI rfl rfl fl_X10_121 rfl rfl rfl ?_
    try simp (disch := omega) only [k_mn_ne, k_mn_ge]
    try simp (disch := omega) only [k_mn_ne, k_mn_ge]
    refine ev_icmp_ge rfl rfl (fun z_ => absurd z_ (by rw [hm]; exact nI_ge (by omega) (by omega))) (fun c_27 => ?_)
    refine ev_aload_n rfl rfl rfl ?_
    refine ev_getR rfl rfl fl_X10_32 rfl rfl rfl rfl ?_
    refine ev_iload_n rfl rfl rfl ?_
    refine ev_zald rfl rfl rfl (vp_in_nI (by omega) (by decide)) (nI_clamp (by omega)) ?_
    try simp (disch := omega) only [k_mn_ne, k_mn_ge]
    try simp (disch := omega) only [k_mn_ne, k_mn_ge]
    refine ev_if_ne rfl rfl (fun c_36 => ?_) (fun c_36 => ?_)
    · first | (refine EvQ.hp (k_mn h p (i + 1)) (by rw [k_mn_s, k_mn1, if_neg c_36, ev_set_same (k_mn_ge (Nat.le_refl i))]) ?_) | (refine EvQ.hp (k_mn h p (i + 1)) (by rw [k_mn_s, k_mn1, if_pos c_36, z_cl1, if_pos c_63, if_pos c_75]) ?_) | (refine EvQ.hp (k_mn h p (i + 1)) (by rw [k_mn_s, k_mn1, if_pos c_36, z_cl1, if_pos c_63, if_neg c_75]) ?_) | (refine EvQ.hp (k_mn h p (i + 1)) (by rw [k_mn_s, k_mn1, if_pos c_36, z_cl1, if_neg c_63]) ?_)
      refine ev_iload_n rfl rfl rfl ?_
      refine ev_aload_n rfl rfl rfl ?_
      refine ev_iload_n rfl rfl rfl ?_
      refine ev_iload_n rfl rfl rfl ?_
      refine ev_V2D rfl rfl lk_X10_153 vt_X10_off rfl rfl rfl rfl rfl (c_moff L b _ i (by omega) p) ?_
      rw [k_mn_o (Nat.lt_succ_self i)]
      refine ev_if_ne rfl rfl (fun c_93 => ?_) (fun c_93 => ?_)
      · refine ev_iconst (v := 1) rfl rfl (by decide) ?_
        refine ev_iadd rfl rfl ?_
        refine ev_istore_n rfl rfl rfl rfl ?_
        dsimp only [List.set]
        refine ev_iinc (y := 1) rfl rfl rfl (by decide) rfl rfl ?_
        dsimp only [List.set]
        refine ev_goto rfl rfl ?_
        have z_ := ih (i + 1) (by omega)
        rw [show s_many h p (i + 1) = s_many h p i + 1 from if_neg c_93] at z_
        rw [nI_1 i]
        first | exact z_ | exact EvQ.drop 4 z_
      · refine ev_iconst (v := 0) rfl rfl (by decide) ?_
        refine ev_goto rfl rfl ?_
        refine ev_iadd rfl rfl ?_
        refine ev_istore_n rfl rfl rfl rfl ?_
        dsimp only [List.set]
        refine ev_iinc (y := 1) rfl rfl rfl (by decide) rfl rfl ?_
        dsimp only [List.set]
        refine ev_goto rfl rfl ?_
        have z_ := ih (i + 1) (by omega)
        rw [show s_many h p (i + 1) = s_many h p i + 0 from if_pos c_93] at z_
        rw [nI_1 i]
        first | exact z_ | exact EvQ.drop 4 z_
    · refine ev_aload_n rfl rfl rfl ?_
      refine ev_getR rfl rfl fl_X10_36 rfl rfl rfl rfl ?_
      refine ev_iload_n rfl rfl rfl ?_
      refine ev_iald rfl rfl rfl (vp_in_nI (by omega) (by decide)) (nI_clamp (by omega)) ?_
      try simp (disch := omega) only [k_mn_ne, k_mn_ge]
      refine ev_aload_n rfl rfl rfl ?_
      refine ev_iload_n rfl rfl rfl ?_
      refine ev_iload_n rfl rfl rfl ?_
      refine ev_V2D rfl rfl lk_X10_153 vt_X10_off rfl rfl rfl rfl rfl (c_moff L b _ i (by omega) p) ?_
      rw [k_mn_off]
      refine ev_isub rfl rfl ?_
      refine ev_istore rfl rfl rfl rfl ?_
      dsimp only [List.set]
      refine ev_aload_n rfl rfl rfl ?_
      refine ev_getR rfl rfl fl_X10_36 rfl rfl rfl rfl ?_
      refine ev_iload_n rfl rfl rfl ?_
      refine ev_iload rfl rfl rfl ?_
      refine ev_bipush (v := 100) rfl rfl (by decide) ?_
      refine ev_icmp_le rfl rfl (fun c_63 => ?_) (fun c_63 => ?_)
      · refine ev_iload rfl rfl rfl ?_
        refine ev_bipush (v := (-100)) rfl rfl (by decide) ?_
        refine ev_icmp_ge rfl rfl (fun c_75 => ?_) (fun c_75 => ?_)
        · refine ev_iload rfl rfl rfl ?_
          refine ev_iast rfl rfl rfl rfl (vp_in_nI (by omega) (by decide)) (nI_clamp (by omega)) ?_
          first | (refine EvQ.hp (k_mn h p (i + 1)) (by rw [k_mn_s, k_mn1, if_neg c_36, ev_set_same (k_mn_ge (Nat.le_refl i))]) ?_) | (refine EvQ.hp (k_mn h p (i + 1)) (by rw [k_mn_s, k_mn1, if_pos c_36, z_cl1, if_pos c_63, if_pos c_75]) ?_) | (refine EvQ.hp (k_mn h p (i + 1)) (by rw [k_mn_s, k_mn1, if_pos c_36, z_cl1, if_pos c_63, if_neg c_75]) ?_) | (refine EvQ.hp (k_mn h p (i + 1)) (by rw [k_mn_s, k_mn1, if_pos c_36, z_cl1, if_neg c_63]) ?_)
          refine ev_iload_n rfl rfl rfl ?_
          refine ev_aload_n rfl rfl rfl ?_
          refine ev_iload_n rfl rfl rfl ?_
          refine ev_iload_n rfl rfl rfl ?_
          refine ev_V2D rfl rfl lk_X10_153 vt_X10_off rfl rfl rfl rfl rfl (c_moff L b _ i (by omega) p) ?_
          rw [k_mn_o (Nat.lt_succ_self i)]
          refine ev_if_ne rfl rfl (fun c_93 => ?_) (fun c_93 => ?_)
          · refine ev_iconst (v := 1) rfl rfl (by decide) ?_
            refine ev_iadd rfl rfl ?_
            refine ev_istore_n rfl rfl rfl rfl ?_
            dsimp only [List.set]
            refine ev_iinc (y := 1) rfl rfl rfl (by decide) rfl rfl ?_
            dsimp only [List.set]
            refine ev_goto rfl rfl ?_
            have z_ := ih (i + 1) (by omega)
            rw [show s_many h p (i + 1) = s_many h p i + 1 from if_neg c_93] at z_
            rw [nI_1 i]
            first | exact z_ | exact EvQ.drop 4 z_
          · refine ev_iconst (v := 0) rfl rfl (by decide) ?_
            refine ev_goto rfl rfl ?_
            refine ev_iadd rfl rfl ?_
            refine ev_istore_n rfl rfl rfl rfl ?_
            dsimp only [List.set]
            refine ev_iinc (y := 1) rfl rfl rfl (by decide) rfl rfl ?_
            dsimp only [List.set]
            refine ev_goto rfl rfl ?_
            have z_ := ih (i + 1) (by omega)
            rw [show s_many h p (i + 1) = s_many h p i + 0 from if_pos c_93] at z_
            rw [nI_1 i]
            first | exact z_ | exact EvQ.drop 4 z_
        · refine ev_bipush (v := (-100)) rfl rfl (by decide) ?_
          refine ev_goto rfl rfl ?_
          refine ev_iast rfl rfl rfl rfl (vp_in_nI (by omega) (by decide)) (nI_clamp (by omega)) ?_
          first | (refine EvQ.hp (k_mn h p (i + 1)) (by rw [k_mn_s, k_mn1, if_neg c_36, ev_set_same (k_mn_ge (Nat.le_refl i))]) ?_) | (refine EvQ.hp (k_mn h p (i + 1)) (by rw [k_mn_s, k_mn1, if_pos c_36, z_cl1, if_pos c_63, if_pos c_75]) ?_) | (refine EvQ.hp (k_mn h p (i + 1)) (by rw [k_mn_s, k_mn1, if_pos c_36, z_cl1, if_pos c_63, if_neg c_75]) ?_) | (refine EvQ.hp (k_mn h p (i + 1)) (by rw [k_mn_s, k_mn1, if_pos c_36, z_cl1, if_neg c_63]) ?_)
          refine ev_iload_n rfl rfl rfl ?_
          refine ev_aload_n rfl rfl rfl ?_
          refine ev_iload_n rfl rfl rfl ?_
          refine ev_iload_n rfl rfl rfl ?_
          refine ev_V2D rfl rfl lk_X10_153 vt_X10_off rfl rfl rfl rfl rfl (c_moff L b _ i (by omega) p) ?_
          rw [k_mn_o (Nat.lt_succ_self i)]
          refine ev_if_ne rfl rfl (fun c_93 => ?_) (fun c_93 => ?_)
          · refine ev_iconst (v := 1) rfl rfl (by decide) ?_
            refine ev_iadd rfl rfl ?_
            refine ev_istore_n rfl rfl rfl rfl ?_
            dsimp only [List.set]
            refine ev_iinc (y := 1) rfl rfl rfl (by decide) rfl rfl ?_
            dsimp only [List.set]
            refine ev_goto rfl rfl ?_
            have z_ := ih (i + 1) (by omega)
            rw [show s_many h p (i + 1) = s_many h p i + 1 from if_neg c_93] at z_
            rw [nI_1 i]
            first | exact z_ | exact EvQ.drop 4 z_
          · refine ev_iconst (v := 0) rfl rfl (by decide) ?_
            refine ev_goto rfl rfl ?_
            refine ev_iadd rfl rfl ?_
            refine ev_istore_n rfl rfl rfl rfl ?_
            dsimp only [List.set]
            refine ev_iinc (y := 1) rfl rfl rfl (by decide) rfl rfl ?_
            dsimp only [List.set]
            refine ev_goto rfl rfl ?_
            have z_ := ih (i + 1) (by omega)
            rw [show s_many h p (i + 1) = s_many h p i + 0 from if_pos c_93] at z_
            rw [nI_1 i]
            first | exact z_ | exact EvQ.drop 4 z_
      · refine ev_bipush (v := 100) rfl rfl (by decide) ?_
        refine ev_goto rfl rfl ?_
        refine ev_iast rfl rfl rfl rfl (vp_in_nI (by omega) (by decide)) (nI_clamp (by omega)) ?_
        first | (refine EvQ.hp (k_mn h p (i + 1)) (by rw [k_mn_s, k_mn1, if_neg c_36, ev_set_same (k_mn_ge (Nat.le_refl i))]) ?_) | (refine EvQ.hp (k_mn h p (i + 1)) (by rw [k_mn_s, k_mn1, if_pos c_36, z_cl1, if_pos c_63, if_pos c_75]) ?_) | (refine EvQ.hp (k_mn h p (i + 1)) (by rw [k_mn_s, k_mn1, if_pos c_36, z_cl1, if_pos c_63, if_neg c_75]) ?_) | (refine EvQ.hp (k_mn h p (i + 1)) (by rw [k_mn_s, k_mn1, if_pos c_36, z_cl1, if_neg c_63]) ?_)
        refine ev_iload_n rfl rfl rfl ?_
        refine ev_aload_n rfl rfl rfl ?_
        refine ev_iload_n rfl rfl rfl ?_
        refine ev_iload_n rfl rfl rfl ?_
        refine ev_V2D rfl rfl lk_X10_153 vt_X10_off rfl rfl rfl rfl rfl (c_moff L b _ i (by omega) p) ?_
        rw [k_mn_o (Nat.lt_succ_self i)]
        refine ev_if_ne rfl rfl (fun c_93 => ?_) (fun c_93 => ?_)
        · refine ev_iconst (v := 1) rfl rfl (by decide) ?_
          refine ev_iadd rfl rfl ?_
          refine ev_istore_n rfl rfl rfl rfl ?_
          dsimp only [List.set]
          refine ev_iinc (y := 1) rfl rfl rfl (by decide) rfl rfl ?_
          dsimp only [List.set]
          refine ev_goto rfl rfl ?_
          have z_ := ih (i + 1) (by omega)
          rw [show s_many h p (i + 1) = s_many h p i + 1 from if_neg c_93] at z_
          rw [nI_1 i]
          first | exact z_ | exact EvQ.drop 4 z_
        · refine ev_iconst (v := 0) rfl rfl (by decide) ?_
          refine ev_goto rfl rfl ?_
          refine ev_iadd rfl rfl ?_
          refine ev_istore_n rfl rfl rfl rfl ?_
          dsimp only [List.set]
          refine ev_iinc (y := 1) rfl rfl rfl (by decide) rfl rfl ?_
          dsimp only [List.set]
          refine ev_goto rfl rfl ?_
          have z_ := ih (i + 1) (by omega)
          rw [show s_many h p (i + 1) = s_many h p i + 0 from if_pos c_93] at z_
          rw [nI_1 i]
          first | exact z_ | exact EvQ.drop 4 z_

def rmTu (h : Hp) (m : Nat) (p : Int32) : Int32 := if z_wi p 0 200 = 0 then -1 else s_many (k_mkp h) p m
def kmTu (h : Hp) (m : Nat) (p : Int32) : Hp := if z_wi p 0 200 = 0 then h else k_mn (k_mkp h) p m

set_option maxRecDepth 100000 in
set_option maxHeartbeats 4000000 in
theorem m_xtuneAll (L : Nat) (b : Bool) (h : Hp) (hB : Bx h) (m : Nat) (hm0 : m ≤ 12) (hm : h 63 5 = nI m) (p : Int32) : EvD mi_X10_tuneAll [.ref 63, .int p] (G0 L b) h (rmTu h m p) (kmTu h m p) := by
  refine EvD.of (lo := [some (.ref 63), some (.int p), none, none, none]) pf_X10_tuneAll ok_X10_tuneAll rfl rfl ?_
  refine ev_iload_n rfl rfl rfl ?_
  refine ev_i2l rfl rfl ?_
  refine ev_lconst (v := 0) rfl rfl rfl ?_
  refine ev_ldc2 rfl rfl kc_X10_143 ?_
  refine ev_S3D rfl rfl lk_X10_124 st_X10_in rfl rfl (c_inw _ _ _ (0) (200) (by decide) (by decide)) ?_
  refine ev_if_ne rfl rfl (fun c_9 => ?_) (fun c_9 => ?_)
  · refine ev_aload_n rfl rfl rfl ?_
    refine ev_V0U rfl rfl lk_X10_136 vt_X10_keeps rfl rfl rfl rfl rfl (c_mkp L b h hB) ?_
    refine ev_iconst (v := 0) rfl rfl (by decide) ?_
    refine ev_istore_n rfl rfl rfl rfl ?_
    dsimp only [List.set]
    refine ev_iconst (v := 0) rfl rfl (by decide) ?_
    refine ev_istore_n rfl rfl rfl rfl ?_
    dsimp only [List.set]
    rw [show rmTu h m p = s_many (k_mkp h) p m from if_neg c_9, show kmTu h m p = k_mn (k_mkp h) p m from if_neg c_9]
    refine EvQ.hp (k_mn (k_mkp h) p 0) (k_mn_0 _ _).symm ?_
    exact l_mtune L b (k_mkp h) m hm0 ((k_mkp_63 (by decide)).trans hm) p m 0 (by omega)
  · refine ev_iconst (v := (-1)) rfl rfl (by decide) ?_
    exact ev_iret rfl rfl rfl (⟨congrArg (fun z => some (Value.int z)) (by simp only [rmTu, if_pos c_9]), rfl, by simp only [kmTu, if_pos c_9]⟩)

theorem z_cl1_eq (y : Int32) : z_max (-100) (z_min 100 y) = z_cl1 y := by
  have e1 : (100 : Int32).toInt = 100 := by decide
  have e2 : (-100 : Int32).toInt = -100 := by decide
  unfold z_max z_min z_cl1
  by_cases q : y ≤ 100
  · have q1 := w_le q
    rw [if_pos q]
    by_cases r : y < 100
    · rw [if_pos r]
      by_cases t : -100 ≤ y
      · rw [if_pos t]
        have t1 := w_le t
        by_cases u : -100 < y
        · rw [if_pos u]
        · rw [if_neg u]
          have u1 := w_nlt u
          exact Int32.toInt_inj.mp (by omega)
      · rw [if_neg t, if_neg (fun z => t (Int32.le_of_lt z))]
    · rw [if_neg r]
      have r1 := w_nlt r
      have ey : y = 100 := Int32.toInt_inj.mp (by omega)
      subst ey
      decide
  · rw [if_neg q, if_neg (fun z => q (Int32.le_of_lt z))]
    decide
theorem x_sub3 (x c d : Int32) : x - (x + c + d) = -(c + d) := by
  rw [Int32.add_assoc, ← Int32.sub_sub, Int32.sub_self, Int32.zero_sub]
theorem near_eq {h : Hp} {w : Nat} (hW : RW1 h w) (p : Int32) : k_near1 h p w = k_mn1 h p w := by
  obtain ⟨-, -, z3, z4, z5, z6, -, -⟩ := hW
  unfold k_near1 k_mn1 o_bent o_moff
  rw [z4, z6, z3, z5, fd10, x_sub3, z_cl1_eq]
theorem near_cg {h h1 : Hp} {w : Nat} (p : Int32) (e7 : h1 7 w = h 7 w) (e8 : h1 8 w = h 8 w) (e9 : h1 9 w = h 9 w) (e10 : h1 10 w = h 10 w) : k_near1 h1 p w = k_near1 h p w := by
  unfold k_near1 o_bent
  rw [e7, e8, e9, e10]
theorem mn1_cg {h h1 : Hp} {w : Nat} (p : Int32) (e7 : h1 66 w = h 66 w) (e8 : h1 67 w = h 67 w) (e9 : h1 68 w = h 68 w) (e10 : h1 69 w = h 69 w) : k_mn1 h1 p w = k_mn1 h p w := by
  unfold k_mn1 o_moff
  rw [e7, e8, e9, e10]
theorem many_sum {X Y : Hp} (p : Int32) : ∀ m, (∀ j, j < m → (o_off X j p = 0 ↔ o_mn Y p j = 0)) → s_exact X p m + s_many Y p m = nI m
  | 0, _ => rfl
  | m + 1, q => by
    have ih := many_sum p m (fun j hj => q j (by omega))
    have z := q m (by omega)
    have n1 := nI_1 m
    by_cases y : o_off X m p = 0
    · rw [show s_exact X p (m + 1) = s_exact X p m + 1 from by show s_exact X p m + _ = _; rw [if_pos y], show s_many Y p (m + 1) = s_many Y p m + 0 from if_pos (z.mp y), Int32.add_zero, Int32.add_assoc _ 1 _, Int32.add_comm 1 _, ← Int32.add_assoc, ih, n1]
    · rw [show s_exact X p (m + 1) = s_exact X p m + 0 from by show s_exact X p m + _ = _; rw [if_neg y], show s_many Y p (m + 1) = s_many Y p m + 1 from if_neg (fun t => y (z.mpr t)), Int32.add_zero, ← Int32.add_assoc, ih, n1]
theorem w_tuneAllZ (L : Nat) (b : Bool) (h : Hp) (hB : Bx h) (p : Int32) : EvI mi_X9_tuneAll [.ref 1, .int p] (G0 L b) h (fun r z => r = r_tuneAll h (nX h) (nW h) p ∧ z = k_tuneAll h (nX h) (nW h) p) [(11, 1), (11, 2), (11, 3), (13, 999), (14, 999), (15, 999), (16, 999), (17, 999), (18, 999), (19, 999), (20, 999), (21, 999), (22, 999), (9, 999)] := by
  refine (x_tuneAll L b h (nW h) (B.nI (u := 12) (hB 4 7)).2 (B.nI (u := 12) (hB 4 7)).1 (nX h) (nX_lt hB) (nX_eq hB) p).ix ?_
  have J0 : JW [(11, 1), (11, 2), (11, 3), (13, 999), (14, 999), (15, 999), (16, 999), (17, 999), (18, 999), (19, 999), (20, 999), (21, 999), (22, 999), (9, 999)] h (k_keep h (nX h)) := (jw_keep hB (nX_lt hB)).widen rfl
  unfold k_tuneAll
  split
  · exact JW.refl hB
  · refine ⟨fun i j => ?_, fun i j q => ?_⟩
    · by_cases e : i = 9
      · subst e; exact B.any _
      · rw [k_near_ne e]; exact J0.1 i j
    · by_cases e : i = 9
      · subst e; cases q
      · rw [k_near_ne e]; exact J0.2 i j q
theorem w_mtuneAllZ (L : Nat) (b : Bool) (h : Hp) (hB : Bx h) (p : Int32) : EvI mi_X10_tuneAll [.ref 63, .int p] (G0 L b) h (fun r z => r = rmTu h (h 63 5).toNatClampNeg p ∧ z = kmTu h (h 63 5).toNatClampNeg p) [(63, 13), (71, 999), (68, 999)] := by
  refine (m_xtuneAll L b h hB _ (B.nI (u := 12) (hB 63 5)).2 (B.nI (u := 12) (hB 63 5)).1 p).ix ?_
  have J0 : JW [(63, 13), (71, 999), (68, 999)] h (k_mkp h) := (jw_mkp hB).widen rfl
  unfold kmTu
  split
  · exact JW.refl hB
  · refine ⟨fun i j => ?_, fun i j q => ?_⟩
    · by_cases e : i = 68
      · subst e; exact B.any _
      · rw [k_mn_ne e]; exact J0.1 i j
    · by_cases e : i = 68
      · subst e; cases q
      · rw [k_mn_ne e]; exact J0.2 i j q
theorem RWs.sts {h h2 : Hp} (hW : RWs h) (e9 : ∀ j, j < nW h → h2 9 j = h2 68 j) (e9o : ∀ j, nW h ≤ j → h2 9 j = h 9 j) (e : ∀ i j, 4 ≤ i → i ≤ 10 → i ≠ 9 → h2 i j = h i j) (e5 : h2 63 5 = h 63 5) (e6 : ∀ i j, 64 ≤ i → i ≤ 70 → i ≠ 68 → h2 i j = h i j) : RWs h2 := by
  obtain ⟨w1, w2, w3⟩ := hW
  have ew : nW h2 = nW h := by unfold nW; rw [e 4 7 (by decide) (by decide) (by decide)]
  refine ⟨by rw [e 4 7 (by decide) (by decide) (by decide), e5]; exact w1, fun u hu => ?_, fun u h1 h12 => ?_⟩
  · rw [ew] at hu
    obtain ⟨z1, z2, z3, z4, z5, z6, z7, z8⟩ := w2 u hu
    unfold RW1
    rw [e 5 u (by decide) (by decide) (by decide), e 6 u (by decide) (by decide) (by decide), e 7 u (by decide) (by decide) (by decide), e 8 u (by decide) (by decide) (by decide), e 10 u (by decide) (by decide) (by decide), e 4 6 (by decide) (by decide) (by decide), e6 64 u (by decide) (by decide) (by decide), e6 65 u (by decide) (by decide) (by decide), e6 66 u (by decide) (by decide) (by decide), e6 67 u (by decide) (by decide) (by decide), e6 69 u (by decide) (by decide) (by decide), e6 70 u (by decide) (by decide) (by decide)]
    exact ⟨z1, z2, z3, z4, e9 u hu, z6, z7, z8⟩
  · rw [ew] at h1
    have z := w3 u h1 h12
    rw [e9o u h1, e 10 u (by decide) (by decide) (by decide), e 4 6 (by decide) (by decide) (by decide)]
    exact z
theorem rel_tuneAll {h h1 : Hp} (hB : Bx h) (hB1 : Bx h1) (hE : RE h) (p : Int32) (e1 : h1 = k_tuneAll h (nX h) (nW h) p) : r_tuneAll h (nX h) (nW h) p = rmTu h1 (h1 63 5).toNatClampNeg p ∧ RE (kmTu h1 (h1 63 5).toNatClampNeg p) := by
  obtain ⟨⟨b0, b1, b2, b3, b4⟩, hW, hA⟩ := id hE
  have ln := nX_lt hB
  have l12 : nW h ≤ 12 := (B.nI (u := 12) (hB 4 7)).2
  have en : h 4 7 = nI (nW h) := (B.nI (u := 12) (hB 4 7)).1
  by_cases q : z_wi p 0 200 = 0
  · have e : h1 = h := by rw [e1]; unfold k_tuneAll; rw [if_pos q]
    unfold r_tuneAll rmTu kmTu
    rw [e, if_pos q, if_pos q, if_pos q]
    exact ⟨rfl, hE⟩
  · have e : h1 = k_near (k_keep h (nX h)) p (nW h) := by rw [e1]; unfold k_tuneAll; rw [if_neg q]
    have n9 : ∀ i j, i ≠ 9 → h1 i j = k_keep h (nX h) i j := fun i j hi => by rw [e]; exact k_near_ne hi
    have c63 : ∀ i j, 63 ≤ i → h1 i j = h i j := fun i j hi => by rw [n9 i j (by omega)]; exact kk_ne ln (by omega) (by omega)
    have c4 : ∀ i j, 4 ≤ i → i ≤ 10 → i ≠ 9 → h1 i j = h i j := fun i j g1 g2 g3 => by rw [n9 i j g3]; exact kk_ne ln (by omega) (by omega)
    have m5 : (h1 63 5).toNatClampNeg = nW h := by unfold nW; rw [c63 63 5 (by decide), hW.1]
    have k4 : ∀ i j, 4 ≤ i → i ≤ 10 → k_keep h (nX h) i j = h i j := fun i j g1 g2 => kk_ne ln (by omega) (by omega)
    have h19 : ∀ j, j < nW h → h1 9 j = k_near1 h p j := fun j hj => by
      rw [e, show k_near (k_keep h (nX h)) p (nW h) 9 j = k_near1 (k_keep h (nX h)) p j from if_pos ⟨rfl, hj⟩]
      exact near_cg p (k4 7 j (by decide) (by decide)) (k4 8 j (by decide) (by decide)) (k4 9 j (by decide) (by decide)) (k4 10 j (by decide) (by decide))
    have h19o : ∀ j, nW h ≤ j → h1 9 j = h 9 j := fun j hj => by rw [e, k_near_ge hj]; exact k4 9 j (by decide) (by decide)
    have km : ∀ i j, 64 ≤ i → i ≤ 70 → k_mkp h1 i j = h i j := fun i j g1 g2 => by rw [k_mkp_o (by omega) (by omega)]; exact c63 i j (by omega)
    have m1 : ∀ j, k_mn1 (k_mkp h1) p j = k_mn1 h p j := fun j => mn1_cg p (km 66 j (by decide) (by decide)) (km 67 j (by decide) (by decide)) (km 68 j (by decide) (by decide)) (km 69 j (by decide) (by decide))
    have sm : ∀ j, j < nW h → o_off h1 j p = o_mn (k_mkp h1) p j := fun j hj => by
      obtain ⟨-, -, z3, -, -, z6, -, -⟩ := hW.2.1 j hj
      unfold o_off o_bent o_mn
      rw [h19 j hj, c4 10 j (by decide) (by decide) (by decide), c4 7 j (by decide) (by decide) (by decide), m1, near_eq (hW.2.1 j hj) p, km 69 j (by decide) (by decide), km 66 j (by decide) (by decide), z3, z6, fd10]
    unfold r_tuneAll rmTu kmTu
    rw [m5, if_neg q, if_neg q, if_neg q, ← e]
    refine ⟨?_, act_re hB hB1 hE (fun j => n9 11 j (by decide)) (fun i hi j => n9 _ j (by omega)) c63 (fun j => by rw [k_mn_ne (by decide), k_mkp_o (by decide) (by decide)]) (fun i hi j => by rw [k_mn_ne (by omega), k_mkp_o (by omega) (by omega)]) (fun j => k_mn_ne (by decide)) (k_mn_ne (by decide)) ?_ ?_ ?_⟩
    · have s := many_sum (X := h1) (Y := k_mkp h1) p (nW h) (fun j hj => by rw [sm j hj])
      rw [en, ← s, Int32.add_comm, Int32.add_sub_cancel]
    · unfold nW
      rw [k_mn_ne (by decide), k_mkp_o (by decide) (by decide), c4 4 7 (by decide) (by decide) (by decide)]
    · have a2 : ∀ f, k_mn (k_mkp h1) p (nW h) 2 f = h 2 f := fun f => by rw [k_mn_ne (by decide), k_mkp_o (by decide) (by decide), n9 2 f (by decide)]; exact kk_ne ln (by decide) (by decide)
      have a63 : ∀ f, f ≠ 13 → k_mn (k_mkp h1) p (nW h) 63 f = h 63 f := fun f hf => by rw [k_mn_ne (by decide), k_mkp_63 hf]; exact c63 63 f (by decide)
      unfold RBo
      rw [a2, a2, a2, a2, a2, a63 0 (by decide), a63 1 (by decide), a63 2 (by decide), a63 3 (by decide), a63 4 (by decide)]
      exact ⟨b0, b1, b2, b3, b4⟩
    · refine RWs.sts hW (fun j hj => ?_) (fun j hj => ?_) (fun i j g1 g2 g3 => ?_) ?_ (fun i j g1 g2 g3 => ?_)
      · rw [k_mn_lt hj, k_mn_ne (by decide), k_mkp_o (by decide) (by decide), h19 j hj, m1]
        exact near_eq (hW.2.1 j hj) p
      · rw [k_mn_ne (by decide), k_mkp_o (by decide) (by decide)]
        exact h19o j hj
      · rw [k_mn_ne (by omega), k_mkp_o (by omega) (by omega)]
        exact c4 i j g1 g2 g3
      · rw [k_mn_ne (by decide), k_mkp_63 (by decide)]
        exact c63 63 5 (by decide)
      · rw [k_mn_ne g3]
        exact km i j g1 g2

