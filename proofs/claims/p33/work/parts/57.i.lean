/-- steam, water, blows behind a beat that draws d -/
def y_st (f v d : Int32) (s : Int32 × Int32 × Int32) : Int32 × Int32 × Int32 := (g_0 s.1 s.2.1 f v d, g_1 s.1 s.2.1 f v d, g_4 s.1 s.2.1 f v d s.2.2)
/-- a tune's beats from i on: D draws, S strays -/
def y_run (f v : Int32) (D : Nat → Int32) (S : Nat → Int32 → Int32) : Nat → Nat → Int32 × Int32 × Int32 → Int32 → Int32 × Int32 × Int32 × Int32
  | 0, _, s, q => (q, s)
  | t + 1, i, s, q => if D i ≤ s.2.1 then y_run f v D S t (i + 1) (y_st f v (D i) s) (z_max q (S i s.1)) else (-100 - nI i, s)
theorem y_run_cg {f v : Int32} {D D' : Nat → Int32} {S S' : Nat → Int32 → Int32} : ∀ (t i : Nat) (s : Int32 × Int32 × Int32) (q : Int32), (∀ j, i ≤ j → j < i + t → D j = D' j ∧ ∀ p, S j p = S' j p) → y_run f v D S t i s q = y_run f v D' S' t i s q
  | 0, _, _, _, _ => rfl
  | t + 1, i, s, q, e => by
    have e0 := e i (Nat.le_refl i) (by omega)
    unfold y_run
    rw [e0.1, e0.2]
    split
    · exact y_run_cg t (i + 1) _ _ (fun j h1 h2 => e j (by omega) (by omega))
    · rfl
theorem y_run_B {f v : Int32} {D : Nat → Int32} {S : Nat → Int32 → Int32} (hv : B v 0 200) : ∀ (t i : Nat) (s : Int32 × Int32 × Int32) (q : Int32), B s.1 0 200 → s.1.toInt ≤ v.toInt → B (y_run f v D S t i s q).2.1 0 200 ∧ (y_run f v D S t i s q).2.1.toInt ≤ v.toInt
  | 0, _, _, _, h1, h2 => ⟨h1, h2⟩
  | t + 1, i, s, q, h1, h2 => by
    unfold y_run
    split
    · refine y_run_B hv t (i + 1) _ _ (g0_B hv) ?_
      show (g_0 s.1 s.2.1 f v (D i)).toInt ≤ v.toInt
      unfold g_0
      split
      · rename_i q; exact w_le q
      · exact Int.le_refl _
    · exact ⟨h1, h2⟩
theorem y_run_B0 {f v : Int32} {D : Nat → Int32} {S : Nat → Int32 → Int32} (hv : B v 0 200) : ∀ (t i : Nat) (s : Int32 × Int32 × Int32) (q : Int32), B s.1 0 200 → B (y_run f v D S t i s q).2.1 0 200
  | 0, _, _, _, h1 => h1
  | t + 1, i, s, q, h1 => by
    unfold y_run
    split
    · exact y_run_B0 hv t (i + 1) _ _ (g0_B hv)
    · exact h1
theorem z_max_nn {q x : Int32} (h : 0 ≤ q) : 0 ≤ z_max q x := by
  unfold z_max
  split
  · rename_i y; exact Int32.le_trans h (Int32.le_of_lt y)
  · exact h
theorem y_run_v {f v : Int32} {D : Nat → Int32} {S : Nat → Int32 → Int32} : ∀ (t i : Nat) (s : Int32 × Int32 × Int32) (q : Int32), 0 ≤ q → 0 ≤ (y_run f v D S t i s q).1 ∨ ∃ j, i ≤ j ∧ j < i + t ∧ (y_run f v D S t i s q).1 = -100 - nI j
  | 0, _, _, _, h => Or.inl h
  | t + 1, i, s, q, h => by
    unfold y_run
    split
    · rcases y_run_v t (i + 1) (y_st f v (D i) s) (z_max q (S i s.1)) (z_max_nn h) with z | ⟨j, a, b, c⟩
      · exact Or.inl z
      · exact Or.inr ⟨j, by omega, by omega, c⟩
    · exact Or.inr ⟨i, Nat.le_refl i, by omega, rfl⟩
/-- the trial boiler -/
def k_tr (h : Hp) (s : Int32 × Int32 × Int32) : Hp := fun i j => if i = 3 then (if j = 0 then s.1 else if j = 1 then s.2.1 else if j = 2 then h 2 2 else if j = 3 then h 2 3 else if j = 4 then s.2.2 else h 3 j) else h i j
theorem k_tr_ne {h : Hp} {s : Int32 × Int32 × Int32} {i j : Nat} (hi : i ≠ 3) : k_tr h s i j = h i j := if_neg hi
theorem k_tr_0 (h : Hp) (s : Int32 × Int32 × Int32) : k_tr h s 3 0 = s.1 := rfl
theorem k_tr_1 (h : Hp) (s : Int32 × Int32 × Int32) : k_tr h s 3 1 = s.2.1 := rfl
theorem k_tr_cp (h : Hp) : z_cp h 3 2 = k_tr h (h 2 0, h 2 1, h 2 4) := by
  funext i j
  unfold z_cp k_tr
  by_cases e : i = 3
  · subst e
    rw [if_pos rfl]
    rcases (show j = 0 ∨ j = 1 ∨ j = 2 ∨ j = 3 ∨ j = 4 ∨ 5 ≤ j by omega) with rfl | rfl | rfl | rfl | rfl | q
    · rfl
    · rfl
    · rfl
    · rfl
    · rfl
    · rw [if_neg (by omega), if_neg (by omega), if_neg (by omega), if_neg (by omega), if_neg (by omega), if_neg (by omega)]
  · rw [if_neg (fun z => e z.1), if_neg e]
theorem k_tr_pass (h : Hp) (s : Int32 × Int32 × Int32) (d : Int32) : z_pass (k_tr h s) 3 d = k_tr h (y_st (h 2 2) (h 2 3) d s) := by
  have e1 : zq_p (k_tr h s) 3 d = g_p s.1 s.2.1 (h 2 2) d := rfl
  have e2 : zq_w (k_tr h s) 3 d = s.2.1 - d := rfl
  have e3 : k_tr h s 3 3 = h 2 3 := rfl
  have e4 : k_tr h s 3 4 = s.2.2 := rfl
  funext i j
  unfold z_pass
  by_cases e : i = 3
  · subst e
    rw [if_pos rfl, e1, e2, e3, e4]
    by_cases q : g_p s.1 s.2.1 (h 2 2) d ≤ h 2 3
    · rw [if_pos q]
      have y : y_st (h 2 2) (h 2 3) d s = (g_p s.1 s.2.1 (h 2 2) d, s.2.1 - d, s.2.2) := by
        unfold y_st g_0 g_1 g_4
        rw [if_pos q, if_pos q, if_pos q]
      rw [y]
      rcases (show j = 0 ∨ j = 1 ∨ j = 2 ∨ j = 3 ∨ j = 4 ∨ 5 ≤ j by omega) with rfl | rfl | rfl | rfl | rfl | q
      · rfl
      · rfl
      · rfl
      · rfl
      · rfl
      · have n0 : j ≠ 0 := by omega
        have n1 : j ≠ 1 := by omega
        have n2 : j ≠ 2 := by omega
        have n3 : j ≠ 3 := by omega
        have n4 : j ≠ 4 := by omega
        unfold k_tr
        simp [n0, n1, n2, n3, n4]
    · rw [if_neg q]
      have y : y_st (h 2 2) (h 2 3) d s = (h 2 3, z_max 0 (s.2.1 - d - (g_p s.1 s.2.1 (h 2 2) d - h 2 3)), s.2.2 + 1) := by
        unfold y_st g_0 g_1 g_4
        rw [if_neg q, if_neg q, if_neg q]
      rw [y]
      rcases (show j = 0 ∨ j = 1 ∨ j = 2 ∨ j = 3 ∨ j = 4 ∨ 5 ≤ j by omega) with rfl | rfl | rfl | rfl | rfl | q
      · rfl
      · rfl
      · rfl
      · rfl
      · rfl
      · have n0 : j ≠ 0 := by omega
        have n1 : j ≠ 1 := by omega
        have n2 : j ≠ 2 := by omega
        have n3 : j ≠ 3 := by omega
        have n4 : j ≠ 4 := by omega
        unfold k_tr
        simp [n0, n1, n2, n3, n4]
  · rw [if_neg e]
    unfold k_tr
    rw [if_neg e, if_neg e]
theorem s_drawn_cg {h h1 : Hp} (e : ∀ k, h1 6 k = h 6 k) (c l : Int32) : ∀ m, s_drawn h1 c l m = s_drawn h c l m
  | 0 => rfl
  | m + 1 => by unfold s_drawn; rw [e m, s_drawn_cg e c l m]
theorem s_stray_cg {h h1 : Hp} (e7 : ∀ k, h1 7 k = h 7 k) (e9 : ∀ k, h1 9 k = h 9 k) (e10 : ∀ k, h1 10 k = h 10 k) (c p : Int32) : ∀ m, s_stray h1 c p m = s_stray h c p m
  | 0 => rfl
  | m + 1 => by
    have eo : o_off h1 m p = o_off h m p := by unfold o_off o_bent; rw [e7, e9, e10]
    unfold s_stray
    rw [eo, s_stray_cg e7 e9 e10 c p m]
theorem drawn_tr (h : Hp) (s : Int32 × Int32 × Int32) (c l : Int32) (m : Nat) : s_drawn (k_tr h s) c l m = s_drawn h c l m := s_drawn_cg (fun k => k_tr_ne (by decide)) c l m
theorem stray_tr (h : Hp) (s : Int32 × Int32 × Int32) (c p : Int32) (m : Nat) : s_stray (k_tr h s) c p m = s_stray h c p m := s_stray_cg (fun k => k_tr_ne (by decide)) (fun k => k_tr_ne (by decide)) (fun k => k_tr_ne (by decide)) c p m
def dC (h : Hp) (n w : Nat) (k : Int32) (i : Nat) : Int32 := s_drawn h (z_mv (h (30 + n) i) k) (h 4 6) w
def sC (h : Hp) (n w : Nat) (k : Int32) (i : Nat) (p : Int32) : Int32 := s_stray h (z_mv (h (30 + n) i) k) p w
def yC (h : Hp) (n w : Nat) (k : Int32) (t i : Nat) (s : Int32 × Int32 × Int32) (q : Int32) : Int32 × Int32 × Int32 × Int32 := y_run (h 2 2) (h 2 3) (dC h n w k) (sC h n w k) t i s q
theorem yC_t {h : Hp} {n w : Nat} {k : Int32} {t i : Nat} {s : Int32 × Int32 × Int32} {q : Int32} (c : s_drawn h (z_mv (h (30 + n) i) k) (h 4 6) w ≤ s.2.1) : yC h n w k (t + 1) i s q = yC h n w k t (i + 1) (y_st (h 2 2) (h 2 3) (s_drawn h (z_mv (h (30 + n) i) k) (h 4 6) w) s) (z_max q (s_stray h (z_mv (h (30 + n) i) k) s.1 w)) := if_pos c
theorem yC_f {h : Hp} {n w : Nat} {k : Int32} {t i : Nat} {s : Int32 × Int32 × Int32} {q : Int32} (c : ¬ s_drawn h (z_mv (h (30 + n) i) k) (h 4 6) w ≤ s.2.1) : yC h n w k (t + 1) i s q = (-100 - nI i, s) := if_neg c

set_option maxRecDepth 100000 in
set_option maxHeartbeats 4000000 in
theorem l_try (L : Nat) (b : Bool) (h : Hp) (n : Nat) (hn : n < 6) (m : Nat) (hm0 : m ≤ 24) (hm : h 36 n = nI m) (w : Nat) (hw0 : w ≤ 12) (hw : h 4 7 = nI w) (k : Int32) : ∀ (t i : Nat) (s : Int32 × Int32 × Int32) (q : Int32), i + t = m → EvQ mi_X9_tryOut 58 [some (.ref 1), some (.int (nI n)), some (.int k), some (.int q), some (.int (nI i)), none, none] [] (G0 L b) (k_tr h s) 0 0 (fun v G' h' => v = some (.int (yC h n w k t i s q).1) ∧ G' = G0 L b ∧ h' = k_tr h (yC h n w k t i s q).2) := by
  intro t
  induction t with
  | zero =>
    intro i s q hi
    have hi2 : i = m := by omega
    subst hi2
    refine ev_iload rfl rfl rfl ?_
    refine ev_aload_n rfl rfl rfl ?_
    refine ev_getR rfl rfl fl_X9_43 rfl rfl rfl rfl ?_
    refine ev_getR rfl rfl fl_X9_196 rfl rfl rfl rfl ?_
    refine ev_iload_n rfl rfl rfl ?_
    refine ev_iald rfl rfl rfl (vp_in_nI (by omega) (by decide)) (nI_clamp (by omega)) ?_
    try simp (disch := omega) only [k_tr_ne, k_tr_0, k_tr_1]
    refine ev_icmp_ge rfl rfl (fun c_69 => ?_) (fun z_ => absurd (by rw [hm]; exact Int32.le_refl _) z_)
    refine ev_iload_n rfl rfl rfl ?_
    exact ev_iret rfl rfl rfl (⟨rfl, rfl, rfl⟩)
  | succ t ih =>
    intro i s q hi
    refine ev_iload rfl rfl rfl ?_
    refine ev_aload_n rfl rfl rfl ?_
    refine ev_getR rfl rfl fl_X9_43 rfl rfl rfl rfl ?_
    refine ev_getR rfl rfl fl_X9_196 rfl rfl rfl rfl ?_
    refine ev_iload_n rfl rfl rfl ?_
    refine ev_iald rfl rfl rfl (vp_in_nI (by omega) (by decide)) (nI_clamp (by omega)) ?_
    try simp (disch := omega) only [k_tr_ne, k_tr_0, k_tr_1]
    refine ev_icmp_ge rfl rfl (fun z_ => absurd z_ (by rw [hm]; exact nI_ge (by omega) (by omega))) (fun c_69 => ?_)
    refine ev_aload_n rfl rfl rfl ?_
    refine ev_getR rfl rfl fl_X9_43 rfl rfl rfl rfl ?_
    refine ev_iload_n rfl rfl rfl ?_
    refine ev_iload rfl rfl rfl ?_
    refine ev_iload_n rfl rfl rfl ?_
    refine ev_V3D rfl rfl lk_X9_352 vt_X7_chordIn rfl rfl rfl rfl rfl (c_chordIn L b (k_tr h s) n hn i (by omega) k) ?_
    try simp (disch := omega) only [k_tr_ne, k_tr_0, k_tr_1]
    refine ev_istore rfl rfl rfl rfl ?_
    dsimp only [List.set]
    refine ev_aload_n rfl rfl rfl ?_
    refine ev_getR rfl rfl fl_X9_22 rfl rfl rfl rfl ?_
    refine ev_iload rfl rfl rfl ?_
    refine ev_aload_n rfl rfl rfl ?_
    refine ev_getR rfl rfl fl_X9_22 rfl rfl rfl rfl ?_
    refine ev_getI rfl rfl fl_X9_105 rfl rfl rfl ?_
    try simp (disch := omega) only [k_tr_ne, k_tr_0, k_tr_1]
    refine ev_V2D rfl rfl lk_X9_108 vt_X8_drawnBy rfl rfl rfl rfl rfl (EvD.to (c_drawnBy L b (k_tr h s) w hw0 ((k_tr_ne (by decide)).trans hw) _ _) (drawn_tr _ _ _ _ _) rfl) ?_
    refine ev_istore rfl rfl rfl rfl ?_
    dsimp only [List.set]
    refine ev_iload rfl rfl rfl ?_
    refine ev_aload_n rfl rfl rfl ?_
    refine ev_getR rfl rfl fl_X9_16 rfl rfl rfl rfl ?_
    refine ev_getI rfl rfl fl_X9_87 rfl rfl rfl ?_
    try simp (disch := omega) only [k_tr_ne, k_tr_0, k_tr_1]
    refine ev_icmp_le rfl rfl (fun c_112 => ?_) (fun c_112 => ?_)
    · refine ev_iload_n rfl rfl rfl ?_
      refine ev_aload_n rfl rfl rfl ?_
      refine ev_getR rfl rfl fl_X9_22 rfl rfl rfl rfl ?_
      refine ev_iload rfl rfl rfl ?_
      refine ev_aload_n rfl rfl rfl ?_
      refine ev_getR rfl rfl fl_X9_16 rfl rfl rfl rfl ?_
      refine ev_getI rfl rfl fl_X9_99 rfl rfl rfl ?_
      try simp (disch := omega) only [k_tr_ne, k_tr_0, k_tr_1]
      refine ev_V2D rfl rfl lk_X9_115 vt_X8_strayOf rfl rfl rfl rfl rfl (EvD.to (c_strayOf L b (k_tr h s) w hw0 ((k_tr_ne (by decide)).trans hw) _ _) (stray_tr _ _ _ _ _) rfl) ?_
      refine ev_S2D rfl rfl lk_X9_356 st_J9_max_7cf53 rfl rfl (c_max _ _ _ _) ?_
      refine ev_istore_n rfl rfl rfl rfl ?_
      dsimp only [List.set]
      refine ev_aload_n rfl rfl rfl ?_
      refine ev_getR rfl rfl fl_X9_16 rfl rfl rfl rfl ?_
      refine ev_iload rfl rfl rfl ?_
      refine ev_V1U rfl rfl lk_X9_118 vt_X1_pass rfl rfl rfl rfl rfl (c_pass _ _ _ rfl rfl _) ?_
      rw [k_tr_pass]
      refine ev_iinc (y := 1) rfl rfl rfl (by decide) rfl rfl ?_
      dsimp only [List.set]
      refine ev_goto rfl rfl ?_
      have z_ := ih (i + 1) (y_st (h 2 2) (h 2 3) (s_drawn h (z_mv (h (30 + n) i) k) (h 4 6) w) s) (z_max q (s_stray h (z_mv (h (30 + n) i) k) s.1 w)) (by omega)
      rw [yC_t c_112, nI_1 i]
      exact EvQ.drop 6 (EvQ.drop 5 z_)
    · refine ev_bipush (v := (-100)) rfl rfl (by decide) ?_
      refine ev_iload rfl rfl rfl ?_
      refine ev_isub rfl rfl ?_
      exact ev_iret rfl rfl rfl (⟨congrArg (fun z => some (Value.int z)) (by rw [yC_f c_112]), rfl, by rw [yC_f c_112]⟩)

def yCr (h : Hp) (t k : Int32) := yC h t.toNatClampNeg (nW h) k (h 36 t.toNatClampNeg).toNatClampNeg 0 (h 2 0, h 2 1, h 2 4) 0
def gsC (h : Hp) (t k : Int32) : Int32 := z_goes (s_or h (30 + t.toNatClampNeg) (h 36 t.toNatClampNeg).toNatClampNeg) k (h 4 7)
def r_try (h : Hp) (t k : Int32) : Int32 := if z_has t (h 28 2) = 0 then -1 else if z_wi k (-11) 11 = 0 then -1 else if gsC h t k = 0 then -2 else (yCr h t k).1
def k_try (h : Hp) (t k : Int32) : Hp := if z_has t (h 28 2) = 0 then h else if z_wi k (-11) 11 = 0 then h else if gsC h t k = 0 then h else k_tr h (yCr h t k).2
theorem k_try_ne {h : Hp} {t k : Int32} {i j : Nat} (hi : i ≠ 3) : k_try h t k i j = h i j := by
  unfold k_try
  repeat' split
  all_goals first | rfl | exact k_tr_ne hi

set_option maxRecDepth 100000 in
set_option maxHeartbeats 4000000 in
theorem x_try (L : Nat) (b : Bool) (h : Hp) (hB : Bx h) (t k : Int32) : EvD mi_X9_tryOut [.ref 1, .int t, .int k] (G0 L b) h (r_try h t k) (k_try h t k) := by
  refine EvD.of (lo := [some (.ref 1), some (.int t), some (.int k), none, none, none, none]) pf_X9_tryOut ok_X9_tryOut rfl rfl ?_
  refine ev_aload_n rfl rfl rfl ?_
  refine ev_getR rfl rfl fl_X9_43 rfl rfl rfl rfl ?_
  refine ev_iload_n rfl rfl rfl ?_
  refine ev_V1D rfl rfl lk_X9_195 vt_X7_has rfl rfl rfl rfl rfl (c_X7_hasE L b h _) ?_
  refine ev_if_eq rfl rfl (fun c_8 => ?_) (fun c_8 => ?_)
  · refine ev_iconst (v := (-1)) rfl rfl (by decide) ?_
    exact ev_iret rfl rfl rfl (⟨congrArg (fun z => some (Value.int z)) (by simp only [r_try, if_pos c_8]), rfl, by simp only [k_try, if_pos c_8]⟩)
  · refine ev_iload_n rfl rfl rfl ?_
    refine ev_S1D rfl rfl lk_X9_227 st_X9_isKey rfl rfl (c_isKey _ _ _) ?_
    refine ev_if_ne rfl rfl (fun c_15 => ?_) (fun c_15 => ?_)
    · have pt : B t 0 5 := z_has_B5 hB c_8
      obtain ⟨n, hn, rfl, en⟩ := B.nat6 pt
      refine ev_aload_n rfl rfl rfl ?_
      refine ev_getR rfl rfl fl_X9_43 rfl rfl rfl rfl ?_
      refine ev_iload_n rfl rfl rfl ?_
      refine ev_iload_n rfl rfl rfl ?_
      refine ev_aload_n rfl rfl rfl ?_
      refine ev_getR rfl rfl fl_X9_22 rfl rfl rfl rfl ?_
      refine ev_getI rfl rfl fl_X9_158 rfl rfl rfl ?_
      refine ev_V3D rfl rfl lk_X9_230 vt_X7_goes rfl rfl rfl rfl rfl (EvD.to (c_goes L b h n hn _ (B.nI (u := 24) (hB 36 n)).2 (B.nI (u := 24) (hB 36 n)).1 k (h 4 7)) (show _ = gsC h (nI n) k from by unfold gsC; rw [en]) rfl) ?_
      refine ev_if_ne rfl rfl (fun c_36 => ?_) (fun c_36 => ?_)
      · refine ev_aload_n rfl rfl rfl ?_
        refine ev_getR rfl rfl fl_X9_16 rfl rfl rfl rfl ?_
        refine ev_aload_n rfl rfl rfl ?_
        refine ev_getR rfl rfl fl_X9_10 rfl rfl rfl rfl ?_
        refine ev_V1U rfl rfl lk_X9_220 vt_X1_copyFrom rfl rfl rfl rfl rfl (c_copyFrom _ _ _ rfl rfl _ rfl rfl (by decide)) ?_
        refine ev_iconst (v := 0) rfl rfl (by decide) ?_
        refine ev_istore_n rfl rfl rfl rfl ?_
        dsimp only [List.set]
        refine ev_iconst (v := 0) rfl rfl (by decide) ?_
        refine ev_istore rfl rfl rfl rfl ?_
        dsimp only [List.set]
        rw [k_tr_cp]
        simp only [r_try, k_try, if_neg c_8, if_neg c_15, if_neg c_36, yCr, en]
        exact l_try L b h n hn _ (B.nI (u := 24) (hB 36 n)).2 (B.nI (u := 24) (hB 36 n)).1 (nW h) (B.nI (u := 12) (hB 4 7)).2 (B.nI (u := 12) (hB 4 7)).1 k _ 0 _ _ (by omega)
      · refine ev_bipush (v := (-2)) rfl rfl (by decide) ?_
        exact ev_iret rfl rfl rfl (⟨congrArg (fun z => some (Value.int z)) (by simp only [r_try, if_neg c_8, if_neg c_15, if_pos c_36]), rfl, by simp only [k_try, if_neg c_8, if_neg c_15, if_pos c_36]⟩)
    · refine ev_iconst (v := (-1)) rfl rfl (by decide) ?_
      exact ev_iret rfl rfl rfl (⟨congrArg (fun z => some (Value.int z)) (by simp only [r_try, if_neg c_8, if_pos c_15]), rfl, by simp only [k_try, if_neg c_8, if_pos c_15]⟩)

set_option maxRecDepth 100000 in
set_option maxHeartbeats 4000000 in
theorem x_would (L : Nat) (b : Bool) (h : Hp) (hB : Bx h) (t k : Int32) : EvD mi_X9_would [.ref 1, .int t, .int k] (G0 L b) h (r_try h t k) (k_try h t k) := by
  refine EvD.of (lo := [some (.ref 1), some (.int t), some (.int k)]) pf_X9_would ok_X9_would rfl rfl ?_
  refine ev_aload_n rfl rfl rfl ?_
  refine ev_iload_n rfl rfl rfl ?_
  refine ev_iload_n rfl rfl rfl ?_
  refine ev_V2D rfl rfl lk_X9_217 vt_X9_tryOut rfl rfl rfl rfl rfl (x_try L b h hB _ _) ?_
  exact ev_iret rfl rfl rfl (⟨rfl, rfl, rfl⟩)

def k_play (h : Hp) (n : Nat) (t k : Int32) : Hp := if 0 ≤ r_try h t k then z_cp (k_keep (k_try h t k) n) 2 3 else if -100 ≤ r_try h t k then k_try h t k else z_cp (k_keep (k_try h t k) n) 2 3

set_option maxRecDepth 100000 in
set_option maxHeartbeats 4000000 in
theorem x_play (L : Nat) (b : Bool) (h : Hp) (hB : Bx h) (n : Nat) (hn : n < 10) (hx : h 11 1 = nI n) (t k : Int32) : EvD mi_X9_play [.ref 1, .int t, .int k] (G0 L b) h (r_try h t k) (k_play h n t k) := by
  refine EvD.of (lo := [some (.ref 1), some (.int t), some (.int k), none, none]) pf_X9_play ok_X9_play rfl rfl ?_
  refine ev_aload_n rfl rfl rfl ?_
  refine ev_iload_n rfl rfl rfl ?_
  refine ev_iload_n rfl rfl rfl ?_
  refine ev_V2D rfl rfl lk_X9_217 vt_X9_tryOut rfl rfl rfl rfl rfl (x_try L b h hB _ _) ?_
  refine ev_istore_n rfl rfl rfl rfl ?_
  dsimp only [List.set]
  refine ev_iload_n rfl rfl rfl ?_
  refine ev_if_ge rfl rfl (fun c_8 => ?_) (fun c_8 => ?_)
  · refine ev_iconst (v := 1) rfl rfl (by decide) ?_
    refine ev_goto rfl rfl ?_
    refine ev_istore rfl rfl rfl rfl ?_
    dsimp only [List.set]
    refine ev_iload rfl rfl rfl ?_
    refine ev_if_eq rfl rfl (fun z_ => absurd z_ (by decide)) (fun c_26 => ?_)
    refine ev_aload_n rfl rfl rfl ?_
    refine ev_getR rfl rfl fl_X9_29 rfl rfl rfl rfl ?_
    refine ev_aload_n rfl rfl rfl ?_
    refine ev_getR rfl rfl fl_X9_10 rfl rfl rfl rfl ?_
    refine ev_aload_n rfl rfl rfl ?_
    refine ev_getR rfl rfl fl_X9_22 rfl rfl rfl rfl ?_
    refine ev_V2U rfl rfl lk_X9_79 vt_X0_keep rfl rfl rfl rfl rfl (c_keep _ _ _ n hn ((k_try_ne (by decide)).trans hx)) ?_
    refine ev_aload_n rfl rfl rfl ?_
    refine ev_getR rfl rfl fl_X9_10 rfl rfl rfl rfl ?_
    refine ev_aload_n rfl rfl rfl ?_
    refine ev_getR rfl rfl fl_X9_16 rfl rfl rfl rfl ?_
    refine ev_V1U rfl rfl lk_X9_220 vt_X1_copyFrom rfl rfl rfl rfl rfl (c_copyFrom _ _ _ rfl rfl _ rfl rfl (by decide)) ?_
    refine ev_iload_n rfl rfl rfl ?_
    exact ev_iret rfl rfl rfl (⟨rfl, rfl, by simp only [k_play, if_pos c_8, if_neg c_26]⟩)
  · refine ev_iload_n rfl rfl rfl ?_
    refine ev_bipush (v := (-100)) rfl rfl (by decide) ?_
    refine ev_icmp_ge rfl rfl (fun c_14 => ?_) (fun c_14 => ?_)
    · refine ev_iconst (v := 0) rfl rfl (by decide) ?_
      refine ev_istore rfl rfl rfl rfl ?_
      dsimp only [List.set]
      refine ev_iload rfl rfl rfl ?_
      refine ev_if_eq rfl rfl (fun c_26 => ?_) (fun z_ => absurd (by decide) z_)
      refine ev_iload_n rfl rfl rfl ?_
      exact ev_iret rfl rfl rfl (⟨rfl, rfl, by simp only [k_play, if_neg c_8, if_pos c_14, if_pos c_26]⟩)
    · refine ev_iconst (v := 1) rfl rfl (by decide) ?_
      refine ev_goto rfl rfl ?_
      refine ev_istore rfl rfl rfl rfl ?_
      dsimp only [List.set]
      refine ev_iload rfl rfl rfl ?_
      refine ev_if_eq rfl rfl (fun z_ => absurd z_ (by decide)) (fun c_26 => ?_)
      refine ev_aload_n rfl rfl rfl ?_
      refine ev_getR rfl rfl fl_X9_29 rfl rfl rfl rfl ?_
      refine ev_aload_n rfl rfl rfl ?_
      refine ev_getR rfl rfl fl_X9_10 rfl rfl rfl rfl ?_
      refine ev_aload_n rfl rfl rfl ?_
      refine ev_getR rfl rfl fl_X9_22 rfl rfl rfl rfl ?_
      refine ev_V2U rfl rfl lk_X9_79 vt_X0_keep rfl rfl rfl rfl rfl (c_keep _ _ _ n hn ((k_try_ne (by decide)).trans hx)) ?_
      refine ev_aload_n rfl rfl rfl ?_
      refine ev_getR rfl rfl fl_X9_10 rfl rfl rfl rfl ?_
      refine ev_aload_n rfl rfl rfl ?_
      refine ev_getR rfl rfl fl_X9_16 rfl rfl rfl rfl ?_
      refine ev_V1U rfl rfl lk_X9_220 vt_X1_copyFrom rfl rfl rfl rfl rfl (c_copyFrom _ _ _ rfl rfl _ rfl rfl (by decide)) ?_
      refine ev_iload_n rfl rfl rfl ?_
      exact ev_iret rfl rfl rfl (⟨rfl, rfl, by simp only [k_play, if_neg c_8, if_neg c_14, if_neg c_26]⟩)

def k_m3 (h : Hp) (s : Int32 × Int32 × Int32) : Hp := k_mg h s.1 s.2.1 s.2.2
theorem k_m3_ne {h : Hp} {s : Int32 × Int32 × Int32} {i j : Nat} (hi : i ≠ 63) : k_m3 h s i j = h i j := k_mg_ne hi
theorem k_m3_6o {h : Hp} {s : Int32 × Int32 × Int32} {j : Nat} (h0 : j ≠ 0) (h1 : j ≠ 1) (h4 : j ≠ 4) : k_m3 h s 63 j = h 63 j := k_mg_6o h0 h1 h4
theorem k_m3_self (h : Hp) : k_m3 h (h 63 0, h 63 1, h 63 4) = h := by
  funext i j
  unfold k_m3 k_mg
  by_cases e : i = 63
  · subst e
    rw [if_pos rfl]
    rcases (show j = 0 ∨ j = 1 ∨ j = 4 ∨ (j ≠ 0 ∧ j ≠ 1 ∧ j ≠ 4) by omega) with rfl | rfl | rfl | q
    · rfl
    · rfl
    · rfl
    · rw [if_neg q.1, if_neg q.2.1, if_neg q.2.2]
  · rw [if_neg e]
theorem k_m3_back (h : Hp) (s : Int32 × Int32 × Int32) : ev_set (ev_set (ev_set (k_m3 h s) 63 0 (h 63 0)) 63 1 (h 63 1)) 63 4 (h 63 4) = h := by
  funext i j
  by_cases e : i = 63
  · subst e
    rcases (show j = 0 ∨ j = 1 ∨ j = 4 ∨ (j ≠ 0 ∧ j ≠ 1 ∧ j ≠ 4) by omega) with rfl | rfl | rfl | q
    · rfl
    · rfl
    · rfl
    · rw [ev_rd3 q.2.2, ev_rd3 q.2.1, ev_rd3 q.1, k_m3_6o q.1 q.2.1 q.2.2]
  · rw [ev_rd2 e, ev_rd2 e, ev_rd2 e, k_m3_ne e]
theorem k_m3_mg (h : Hp) (s : Int32 × Int32 × Int32) (a b c : Int32) : k_mg (k_m3 h s) a b c = k_m3 h (a, b, c) := by
  funext i j
  unfold k_m3 k_mg
  by_cases e : i = 63
  · subst e
    rcases (show j = 0 ∨ j = 1 ∨ j = 4 ∨ (j ≠ 0 ∧ j ≠ 1 ∧ j ≠ 4) by omega) with rfl | rfl | rfl | q
    · rfl
    · rfl
    · rfl
    · simp [q.1, q.2.1, q.2.2]
  · simp [e]
def dM (h : Hp) (n w : Nat) (k : Int32) (i : Nat) : Int32 := s_md h (z_mv (h 74 (24 * n + i)) k) w
def sM (h : Hp) (n w : Nat) (k : Int32) (i : Nat) (p : Int32) : Int32 := s_ms h (z_mv (h 74 (24 * n + i)) k) p w
def yM (h : Hp) (n w : Nat) (k : Int32) (t i : Nat) (s : Int32 × Int32 × Int32) (q : Int32) : Int32 × Int32 × Int32 × Int32 := y_run (h 63 2) (h 63 3) (dM h n w k) (sM h n w k) t i s q
theorem yM_t {h : Hp} {n w : Nat} {k : Int32} {t i : Nat} {s : Int32 × Int32 × Int32} {q : Int32} (c : dM h n w k i ≤ s.2.1) : yM h n w k (t + 1) i s q = yM h n w k t (i + 1) (y_st (h 63 2) (h 63 3) (dM h n w k i) s) (z_max q (sM h n w k i s.1)) := if_pos c
theorem yM_f {h : Hp} {n w : Nat} {k : Int32} {t i : Nat} {s : Int32 × Int32 × Int32} {q : Int32} (c : ¬ dM h n w k i ≤ s.2.1) : yM h n w k (t + 1) i s q = (-100 - nI i, s) := if_neg c
theorem m3_md (h : Hp) (s : Int32 × Int32 × Int32) (c : Int32) (m : Nat) : s_md (k_m3 h s) c m = s_md h c m := s_md_cg (fun k => k_m3_ne (by decide)) (fun k => k_m3_ne (by decide)) c m
theorem m3_ms (h : Hp) (s : Int32 × Int32 × Int32) (c p : Int32) (m : Nat) : s_ms (k_m3 h s) c p m = s_ms h c p m := s_ms_cg (fun k => k_m3_ne (by decide)) (fun k => k_m3_ne (by decide)) (fun k => k_m3_ne (by decide)) c p m
theorem m3_go {h : Hp} {s : Int32 × Int32 × Int32} {c : Int32} {m : Nat} (q : s_md h c m ≤ s.2.1) : r_mgo (k_m3 h s) m c = s_ms h c s.1 m ∧ k_mgo (k_m3 h s) m c = k_m3 h (y_st (h 63 2) (h 63 3) (s_md h c m) s) := by
  have e0 : k_m3 h s 63 0 = s.1 := rfl
  have e1 : k_m3 h s 63 1 = s.2.1 := rfl
  have e4 : k_m3 h s 63 4 = s.2.2 := rfl
  have e2 : k_m3 h s 63 2 = h 63 2 := rfl
  have e3 : k_m3 h s 63 3 = h 63 3 := rfl
  unfold r_mgo k_mgo
  rw [m3_md, m3_ms, e0, e1, e2, e3, e4, if_pos q, if_pos q, k_m3_mg]
  exact ⟨rfl, rfl⟩
theorem m3_no {h : Hp} {s : Int32 × Int32 × Int32} {c : Int32} {m : Nat} (q : ¬ s_md h c m ≤ s.2.1) : r_mgo (k_m3 h s) m c = -5 ∧ k_mgo (k_m3 h s) m c = k_m3 h s := by
  have e1 : k_m3 h s 63 1 = s.2.1 := rfl
  unfold r_mgo k_mgo
  rw [m3_md, e1, if_neg q, if_neg q]
  exact ⟨rfl, rfl⟩
theorem zmx_le {q v : Int32} (c : v ≤ q) : z_max q v = q := if_neg (Int32.not_lt.mpr c)
theorem zmx_gt {q v : Int32} (c : ¬ v ≤ q) : z_max q v = v := if_pos (Int32.not_le.mp c)
theorem ms_ne5 (h : Hp) (c p : Int32) (m : Nat) : ¬ s_ms h c p m = -5 := fun z => by
  have y := s_ms_nn h c p m
  rw [z] at y
  exact absurd y (by decide)
theorem y_st_0 {f v d : Int32} {s : Int32 × Int32 × Int32} (hv : B v 0 200) : B (y_st f v d s).1 0 200 := g0_B hv

set_option maxRecDepth 100000 in
set_option maxHeartbeats 4000000 in
theorem l_mga (L : Nat) (b : Bool) (h : Hp) (hB : Bx h) (n : Nat) (hn : n < 6) (m : Nat) (hm0 : m ≤ 24) (hm : h 73 n = nI m) (w : Nat) (hw0 : w ≤ 12) (hw : h 63 5 = nI w) (hd : ∀ c, 0 ≤ (s_md h c w).toInt) (k : Int32) : ∀ (t i : Nat) (s : Int32 × Int32 × Int32) (q : Int32), i + t = m → B s.1 0 200 → EvQ mi_X10_goesAll 5 [some (.ref 63), some (.int (nI n)), some (.int k), some (.int q), some (.int (nI i)), none] [] (G0 L b) (k_m3 h s) 0 0 (fun v G' h' => v = some (.int (yM h n w k t i s q).1) ∧ G' = G0 L b ∧ h' = k_m3 h (yM h n w k t i s q).2) := by
  intro t
  induction t with
  | zero =>
    intro i s q hi hs
    have hi2 : i = m := by omega
    subst hi2
    refine ev_iload rfl rfl rfl ?_
    refine ev_aload_n rfl rfl rfl ?_
    refine ev_getR rfl rfl fl_X10_51 rfl rfl rfl rfl ?_
    refine ev_iload_n rfl rfl rfl ?_
    refine ev_iald rfl rfl rfl (vp_in_nI (by omega) (by decide)) (nI_clamp (by omega)) ?_
    try simp (disch := omega) only [k_m3_ne]
    refine ev_icmp_ge rfl rfl (fun c_13 => ?_) (fun z_ => absurd (by rw [hm]; exact Int32.le_refl _) z_)
    refine ev_iload_n rfl rfl rfl ?_
    exact ev_iret rfl rfl rfl (⟨rfl, rfl, rfl⟩)
  | succ t ih =>
    intro i s q hi hs
    by_cases cD : dM h n w k i ≤ s.2.1
    · skip
      refine ev_iload rfl rfl rfl ?_
      refine ev_aload_n rfl rfl rfl ?_
      refine ev_getR rfl rfl fl_X10_51 rfl rfl rfl rfl ?_
      refine ev_iload_n rfl rfl rfl ?_
      refine ev_iald rfl rfl rfl (vp_in_nI (by omega) (by decide)) (nI_clamp (by omega)) ?_
      try simp (disch := omega) only [k_m3_ne]
      refine ev_icmp_ge rfl rfl (fun z_ => absurd z_ (by rw [hm]; exact nI_ge (by omega) (by omega))) (fun c_13 => ?_)
      refine ev_aload_n rfl rfl rfl ?_
      refine ev_aload_n rfl rfl rfl ?_
      refine ev_aload_n rfl rfl rfl ?_
      refine ev_iload_n rfl rfl rfl ?_
      refine ev_iload rfl rfl rfl ?_
      refine ev_V2D rfl rfl lk_X10_263 vt_X10_chordAt rfl rfl rfl rfl rfl (c_mchordAt L b (k_m3 h s) n hn i (by omega)) ?_
      try simp (disch := omega) only [k_m3_ne]
      refine ev_iload_n rfl rfl rfl ?_
      refine ev_V2D rfl rfl lk_X10_276 vt_X10_moved rfl rfl rfl rfl rfl (EvD.to (c_mmoved L b (k_m3 h s) _ k) (z_mv2_eq _ _) rfl) ?_
      refine ev_V1D rfl rfl lk_X10_162 vt_X10_goes rfl rfl rfl rfl rfl (EvD.to (c_mgoes L b (k_m3 h s) w hw0 ((k_m3_6o (by decide) (by decide) (by decide)).trans hw) (jw_mg hB hs).1 _ (by rw [m3_md]; exact hd _)) (m3_go cD).1 (m3_go cD).2) ?_
      refine ev_istore rfl rfl rfl rfl ?_
      dsimp only [List.set]
      refine ev_iload rfl rfl rfl ?_
      refine ev_bipush (v := (-5)) rfl rfl (by decide) ?_
      refine ev_icmp_ne rfl rfl (fun c_38 => ?_) (fun z_ => absurd z_ (ms_ne5 _ _ _ _))
      refine ev_iload rfl rfl rfl ?_
      refine ev_iload_n rfl rfl rfl ?_
      refine ev_icmp_le rfl rfl (fun c_50 => ?_) (fun c_50 => ?_)
      · refine ev_iload_n rfl rfl rfl ?_
        refine ev_istore_n rfl rfl rfl rfl ?_
        dsimp only [List.set]
        refine ev_iinc (y := 1) rfl rfl rfl (by decide) rfl rfl ?_
        dsimp only [List.set]
        refine ev_goto rfl rfl ?_
        have z_ := ih (i + 1) (y_st (h 63 2) (h 63 3) (dM h n w k i) s) (z_max q (sM h n w k i s.1)) (by omega) (y_st_0 (hB 63 3))
        rw [show z_max q (sM h n w k i s.1) = _ from zmx_le c_50] at z_
        rw [yM_t cD, show z_max q (sM h n w k i s.1) = _ from zmx_le c_50, nI_1 i]
        exact EvQ.drop 5 z_
      · refine ev_iload rfl rfl rfl ?_
        refine ev_goto rfl rfl ?_
        refine ev_istore_n rfl rfl rfl rfl ?_
        dsimp only [List.set]
        refine ev_iinc (y := 1) rfl rfl rfl (by decide) rfl rfl ?_
        dsimp only [List.set]
        refine ev_goto rfl rfl ?_
        have z_ := ih (i + 1) (y_st (h 63 2) (h 63 3) (dM h n w k i) s) (z_max q (sM h n w k i s.1)) (by omega) (y_st_0 (hB 63 3))
        rw [show z_max q (sM h n w k i s.1) = _ from zmx_gt c_50] at z_
        rw [yM_t cD, show z_max q (sM h n w k i s.1) = _ from zmx_gt c_50, nI_1 i]
        exact EvQ.drop 5 z_
    · skip
      refine ev_iload rfl rfl rfl ?_
      refine ev_aload_n rfl rfl rfl ?_
      refine ev_getR rfl rfl fl_X10_51 rfl rfl rfl rfl ?_
      refine ev_iload_n rfl rfl rfl ?_
      refine ev_iald rfl rfl rfl (vp_in_nI (by omega) (by decide)) (nI_clamp (by omega)) ?_
      try simp (disch := omega) only [k_m3_ne]
      refine ev_icmp_ge rfl rfl (fun z_ => absurd z_ (by rw [hm]; exact nI_ge (by omega) (by omega))) (fun c_13 => ?_)
      refine ev_aload_n rfl rfl rfl ?_
      refine ev_aload_n rfl rfl rfl ?_
      refine ev_aload_n rfl rfl rfl ?_
      refine ev_iload_n rfl rfl rfl ?_
      refine ev_iload rfl rfl rfl ?_
      refine ev_V2D rfl rfl lk_X10_263 vt_X10_chordAt rfl rfl rfl rfl rfl (c_mchordAt L b (k_m3 h s) n hn i (by omega)) ?_
      try simp (disch := omega) only [k_m3_ne]
      refine ev_iload_n rfl rfl rfl ?_
      refine ev_V2D rfl rfl lk_X10_276 vt_X10_moved rfl rfl rfl rfl rfl (EvD.to (c_mmoved L b (k_m3 h s) _ k) (z_mv2_eq _ _) rfl) ?_
      refine ev_V1D rfl rfl lk_X10_162 vt_X10_goes rfl rfl rfl rfl rfl (EvD.to (c_mgoes L b (k_m3 h s) w hw0 ((k_m3_6o (by decide) (by decide) (by decide)).trans hw) (jw_mg hB hs).1 _ (by rw [m3_md]; exact hd _)) (m3_no cD).1 (m3_no cD).2) ?_
      refine ev_istore rfl rfl rfl rfl ?_
      dsimp only [List.set]
      refine ev_iload rfl rfl rfl ?_
      refine ev_bipush (v := (-5)) rfl rfl (by decide) ?_
      refine ev_icmp_ne rfl rfl (fun z_ => absurd (by decide) z_) (fun c_38 => ?_)
      refine ev_bipush (v := (-100)) rfl rfl (by decide) ?_
      refine ev_iload rfl rfl rfl ?_
      refine ev_isub rfl rfl ?_
      exact ev_iret rfl rfl rfl (⟨congrArg (fun z => some (Value.int z)) (by rw [yM_f cD]), rfl, by rw [yM_f cD]⟩)

def yMr (h : Hp) (t k : Int32) := yM h t.toNatClampNeg (h 63 5).toNatClampNeg k (h 73 t.toNatClampNeg).toNatClampNeg 0 (h 63 0, h 63 1, h 63 4) 0
def inM (h : Hp) (t k : Int32) : Int32 := s_in (s_mor h t.toNatClampNeg (h 73 t.toNatClampNeg).toNatClampNeg) k (h 63 5 - 1) 12
def m_try (h : Hp) (t k : Int32) : Int32 := if z_has t (h 63 23) = 0 then -1 else if z_wi k (-11) 11 = 0 then -1 else if inM h t k = 0 then -2 else (yMr h t k).1
def km_play (h : Hp) (t k : Int32) : Hp := if z_has t (h 63 23) = 0 then h else if z_wi k (-11) 11 = 0 then h else if inM h t k = 0 then h else if (yMr h t k).1 = -100 then h else k_m3 (k_mkp h) (yMr h t k).2

set_option maxRecDepth 100000 in
set_option maxHeartbeats 4000000 in
theorem c_mgoesAll (L : Nat) (b : Bool) (h : Hp) (hB : Bx h) (hd : ∀ c, 0 ≤ (s_md h c (h 63 5).toNatClampNeg).toInt) (n : Nat) (hn : n < 6) (k : Int32) : EvD mi_X10_goesAll [.ref 63, .int (nI n), .int k] (G0 L b) h ((yMr h (nI n) k).1) (k_m3 h (yMr h (nI n) k).2) := by
  refine EvD.of (lo := [some (.ref 63), some (.int (nI n)), some (.int k), none, none, none]) pf_X10_goesAll ok_X10_goesAll rfl rfl ?_
  refine ev_iconst (v := 0) rfl rfl (by decide) ?_
  refine ev_istore_n rfl rfl rfl rfl ?_
  dsimp only [List.set]
  refine ev_iconst (v := 0) rfl rfl (by decide) ?_
  refine ev_istore rfl rfl rfl rfl ?_
  dsimp only [List.set]
  have z_ := l_mga L b h hB n hn _ (B.nI (u := 24) (hB 73 n)).2 (B.nI (u := 24) (hB 73 n)).1 _ (B.nI (u := 12) (hB 63 5)).2 (B.nI (u := 12) (hB 63 5)).1 hd k (h 73 n).toNatClampNeg 0 (h 63 0, h 63 1, h 63 4) 0 (by omega) (hB 63 0)
  rw [k_m3_self] at z_
  unfold yMr
  rw [nI_clamp (show n < 2 ^ 31 by omega)]
  exact z_

set_option maxRecDepth 100000 in
set_option maxHeartbeats 4000000 in
theorem c_mtried (L : Nat) (b : Bool) (h : Hp) (hB : Bx h) (hd : ∀ c, 0 ≤ (s_md h c (h 63 5).toNatClampNeg).toInt) (n : Nat) (hn : n < 6) (k : Int32) : EvD mi_X10_tried [.ref 63, .int (nI n), .int k] (G0 L b) h ((yMr h (nI n) k).1) (h) := by
  refine EvD.of (lo := [some (.ref 63), some (.int (nI n)), some (.int k), none, none, none, none]) pf_X10_tried ok_X10_tried rfl rfl ?_
  refine ev_aload_n rfl rfl rfl ?_
  refine ev_getI rfl rfl fl_X10_7 rfl rfl rfl ?_
  refine ev_istore_n rfl rfl rfl rfl ?_
  dsimp only [List.set]
  refine ev_aload_n rfl rfl rfl ?_
  refine ev_getI rfl rfl fl_X10_13 rfl rfl rfl ?_
  refine ev_istore rfl rfl rfl rfl ?_
  dsimp only [List.set]
  refine ev_aload_n rfl rfl rfl ?_
  refine ev_getI rfl rfl fl_X10_131 rfl rfl rfl ?_
  refine ev_istore rfl rfl rfl rfl ?_
  dsimp only [List.set]
  refine ev_aload_n rfl rfl rfl ?_
  refine ev_iload_n rfl rfl rfl ?_
  refine ev_iload_n rfl rfl rfl ?_
  refine ev_V2D rfl rfl lk_X10_279 vt_X10_goesAll rfl rfl rfl rfl rfl (c_mgoesAll L b h hB hd n hn k) ?_
  refine ev_istore rfl rfl rfl rfl ?_
  dsimp only [List.set]
  refine ev_aload_n rfl rfl rfl ?_
  refine ev_iload_n rfl rfl rfl ?_
  refine ev_putI rfl rfl fl_X10_7 rfl rfl rfl rfl rfl ?_
  refine ev_aload_n rfl rfl rfl ?_
  refine ev_iload rfl rfl rfl ?_
  refine ev_putI rfl rfl fl_X10_13 rfl rfl rfl rfl rfl ?_
  refine ev_aload_n rfl rfl rfl ?_
  refine ev_iload rfl rfl rfl ?_
  refine ev_putI rfl rfl fl_X10_131 rfl rfl rfl rfl rfl ?_
  refine ev_iload rfl rfl rfl ?_
  exact ev_iret rfl rfl rfl (⟨rfl, rfl, k_m3_back _ _⟩)

set_option maxRecDepth 100000 in
set_option maxHeartbeats 4000000 in
theorem m_xwould (L : Nat) (b : Bool) (h : Hp) (hB : Bx h) (hd : ∀ c, 0 ≤ (s_md h c (h 63 5).toNatClampNeg).toInt) (t k : Int32) : EvD mi_X10_would [.ref 63, .int t, .int k] (G0 L b) h (m_try h t k) (h) := by
  refine EvD.of (lo := [some (.ref 63), some (.int t), some (.int k)]) pf_X10_would ok_X10_would rfl rfl ?_
  refine ev_aload_n rfl rfl rfl ?_
  refine ev_iload_n rfl rfl rfl ?_
  refine ev_V1D rfl rfl lk_X10_266 vt_X10_isTune rfl rfl rfl rfl rfl (c_misTune L b h hB _) ?_
  refine ev_if_eq rfl rfl (fun c_5 => ?_) (fun c_5 => ?_)
  · refine ev_iconst (v := (-1)) rfl rfl (by decide) ?_
    exact ev_iret rfl rfl rfl (⟨congrArg (fun z => some (Value.int z)) (by simp only [m_try, if_pos c_5]), rfl, rfl⟩)
  · refine ev_iload_n rfl rfl rfl ?_
    refine ev_i2l rfl rfl ?_
    refine ev_ldc2 rfl rfl kc_X10_282 ?_
    refine ev_ldc2 rfl rfl kc_X10_284 ?_
    refine ev_S3D rfl rfl lk_X10_124 st_X10_in rfl rfl (c_inw _ _ _ (-11) (11) (by decide) (by decide)) ?_
    refine ev_if_ne rfl rfl (fun c_19 => ?_) (fun c_19 => ?_)
    · have pt : B t 0 5 := by
        have z_ := z_has_B (show B (h 63 23) 0 6 from hB 63 23) c_5
        have y_ := (show B (h 63 23) 0 6 from hB 63 23).2
        exact ⟨z_.1, by omega⟩
      obtain ⟨n, hn, rfl, en⟩ := B.nat6 pt
      refine ev_aload_n rfl rfl rfl ?_
      refine ev_iload_n rfl rfl rfl ?_
      refine ev_iload_n rfl rfl rfl ?_
      refine ev_V2D rfl rfl lk_X10_286 vt_X10_isIn rfl rfl rfl rfl rfl (EvD.to (c_misIn L b h n hn _ (B.nI (u := 24) (hB 73 n)).2 (B.nI (u := 24) (hB 73 n)).1 k) (show _ = inM h (nI n) k from by unfold inM; rw [en]) rfl) ?_
      refine ev_if_eq rfl rfl (fun c_30 => ?_) (fun c_30 => ?_)
      · refine ev_bipush (v := (-2)) rfl rfl (by decide) ?_
        exact ev_iret rfl rfl rfl (⟨congrArg (fun z => some (Value.int z)) (by simp only [m_try, if_neg c_5, if_neg c_19, if_pos c_30]), rfl, rfl⟩)
      · refine ev_aload_n rfl rfl rfl ?_
        refine ev_iload_n rfl rfl rfl ?_
        refine ev_iload_n rfl rfl rfl ?_
        refine ev_V2D rfl rfl lk_X10_290 vt_X10_tried rfl rfl rfl rfl rfl (c_mtried L b h hB hd n hn k) ?_
        refine ev_goto rfl rfl ?_
        exact ev_iret rfl rfl rfl (⟨congrArg (fun z => some (Value.int z)) (by simp only [m_try, if_neg c_5, if_neg c_19, if_neg c_30]), rfl, rfl⟩)
    · refine ev_iconst (v := (-1)) rfl rfl (by decide) ?_
      exact ev_iret rfl rfl rfl (⟨congrArg (fun z => some (Value.int z)) (by simp only [m_try, if_neg c_5, if_pos c_19]), rfl, rfl⟩)

theorem yMr_mkp (h : Hp) (t k : Int32) : yMr (k_mkp h) t k = yMr h t k := by
  have e6 : ∀ j, j ≠ 13 → k_mkp h 63 j = h 63 j := fun j hj => k_mkp_63 hj
  have eo : ∀ i j, i ≠ 71 → i ≠ 63 → k_mkp h i j = h i j := fun i j h1 h2 => k_mkp_o h1 h2
  unfold yMr yM
  rw [eo 73 _ (by decide) (by decide), e6 5 (by decide), e6 0 (by decide), e6 1 (by decide), e6 2 (by decide), e6 3 (by decide), e6 4 (by decide)]
  refine y_run_cg _ _ _ _ (fun j _ _ => ⟨?_, fun p => ?_⟩)
  · unfold dM
    rw [eo 74 _ (by decide) (by decide)]
    exact s_md_cg (fun k => eo 65 k (by decide) (by decide)) (fun k => eo 70 k (by decide) (by decide)) _ _
  · unfold sM
    rw [eo 74 _ (by decide) (by decide)]
    exact s_ms_cg (fun k => eo 66 k (by decide) (by decide)) (fun k => eo 68 k (by decide) (by decide)) (fun k => eo 69 k (by decide) (by decide)) _ _ _

set_option maxRecDepth 100000 in
set_option maxHeartbeats 4000000 in
theorem m_xplay (L : Nat) (b : Bool) (h : Hp) (hB : Bx h) (hd : ∀ c, 0 ≤ (s_md h c (h 63 5).toNatClampNeg).toInt) (t k : Int32) : EvD mi_X10_play [.ref 63, .int t, .int k] (G0 L b) h (m_try h t k) (km_play h t k) := by
  refine EvD.of (lo := [some (.ref 63), some (.int t), some (.int k)]) pf_X10_play ok_X10_play rfl rfl ?_
  refine ev_aload_n rfl rfl rfl ?_
  refine ev_iload_n rfl rfl rfl ?_
  refine ev_V1D rfl rfl lk_X10_266 vt_X10_isTune rfl rfl rfl rfl rfl (c_misTune L b h hB _) ?_
  refine ev_if_eq rfl rfl (fun c_5 => ?_) (fun c_5 => ?_)
  · refine ev_iconst (v := (-1)) rfl rfl (by decide) ?_
    exact ev_iret rfl rfl rfl (⟨congrArg (fun z => some (Value.int z)) (by simp only [m_try, if_pos c_5]), rfl, by simp only [km_play, if_pos c_5]⟩)
  · refine ev_iload_n rfl rfl rfl ?_
    refine ev_i2l rfl rfl ?_
    refine ev_ldc2 rfl rfl kc_X10_282 ?_
    refine ev_ldc2 rfl rfl kc_X10_284 ?_
    refine ev_S3D rfl rfl lk_X10_124 st_X10_in rfl rfl (c_inw _ _ _ (-11) (11) (by decide) (by decide)) ?_
    refine ev_if_ne rfl rfl (fun c_19 => ?_) (fun c_19 => ?_)
    · have pt : B t 0 5 := by
        have z_ := z_has_B (show B (h 63 23) 0 6 from hB 63 23) c_5
        have y_ := (show B (h 63 23) 0 6 from hB 63 23).2
        exact ⟨z_.1, by omega⟩
      obtain ⟨n, hn, rfl, en⟩ := B.nat6 pt
      refine ev_aload_n rfl rfl rfl ?_
      refine ev_iload_n rfl rfl rfl ?_
      refine ev_iload_n rfl rfl rfl ?_
      refine ev_V2D rfl rfl lk_X10_286 vt_X10_isIn rfl rfl rfl rfl rfl (EvD.to (c_misIn L b h n hn _ (B.nI (u := 24) (hB 73 n)).2 (B.nI (u := 24) (hB 73 n)).1 k) (show _ = inM h (nI n) k from by unfold inM; rw [en]) rfl) ?_
      refine ev_if_ne rfl rfl (fun c_30 => ?_) (fun c_30 => ?_)
      · refine ev_aload_n rfl rfl rfl ?_
        refine ev_iload_n rfl rfl rfl ?_
        refine ev_iload_n rfl rfl rfl ?_
        refine ev_V2D rfl rfl lk_X10_290 vt_X10_tried rfl rfl rfl rfl rfl (c_mtried L b h hB hd n hn k) ?_
        refine ev_bipush (v := (-100)) rfl rfl (by decide) ?_
        refine ev_icmp_ne rfl rfl (fun c_44 => ?_) (fun c_44 => ?_)
        · refine ev_aload_n rfl rfl rfl ?_
          refine ev_V0U rfl rfl lk_X10_136 vt_X10_keeps rfl rfl rfl rfl rfl (c_mkp L b h hB) ?_
          refine ev_aload_n rfl rfl rfl ?_
          refine ev_iload_n rfl rfl rfl ?_
          refine ev_iload_n rfl rfl rfl ?_
          refine ev_V2D rfl rfl lk_X10_279 vt_X10_goesAll rfl rfl rfl rfl rfl (EvD.to (c_mgoesAll L b (k_mkp h) (jw_mkp hB).1 (fun c => by rw [k_mkp_63 (by decide), s_md_cg (fun k => k_mkp_o (by decide) (by decide)) (fun k => k_mkp_o (by decide) (by decide))]; exact hd c) n hn k) (by rw [yMr_mkp]) (by rw [yMr_mkp])) ?_
          exact ev_iret rfl rfl rfl (⟨congrArg (fun z => some (Value.int z)) (by simp only [m_try, if_neg c_5, if_neg c_19, if_neg c_30, if_neg c_44]), rfl, by simp only [km_play, if_neg c_5, if_neg c_19, if_neg c_30, if_neg c_44]⟩)
        · refine ev_bipush (v := (-100)) rfl rfl (by decide) ?_
          exact ev_iret rfl rfl rfl (⟨congrArg (fun z => some (Value.int z)) (by simp only [m_try, if_neg c_5, if_neg c_19, if_neg c_30, if_pos c_44]; exact c_44.symm), rfl, by simp only [km_play, if_neg c_5, if_neg c_19, if_neg c_30, if_pos c_44]⟩)
      · refine ev_bipush (v := (-2)) rfl rfl (by decide) ?_
        exact ev_iret rfl rfl rfl (⟨congrArg (fun z => some (Value.int z)) (by simp only [m_try, if_neg c_5, if_neg c_19, if_pos c_30]), rfl, by simp only [km_play, if_neg c_5, if_neg c_19, if_pos c_30]⟩)
    · refine ev_iconst (v := (-1)) rfl rfl (by decide) ?_
      exact ev_iret rfl rfl rfl (⟨congrArg (fun z => some (Value.int z)) (by simp only [m_try, if_neg c_5, if_pos c_19]), rfl, by simp only [km_play, if_neg c_5, if_pos c_19]⟩)

