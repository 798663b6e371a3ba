theorem sg_0 {h : Hp} {t k d R q : Int32} (g : r_sg h t k d R q = 0) : ¬ z_has t (h 28 2) = 0 ∧ ¬ z_wi k (-11) 11 = 0 ∧ ¬ sg_told h t q = 0 ∧ ¬ gsC h t k = 0 := by
  unfold r_sg at g
  by_cases q1 : z_has t (h 28 2) = 0
  · rw [if_pos q1] at g; exact absurd g (by decide)
  rw [if_neg q1] at g
  by_cases q2 : z_wi k (-11) 11 = 0
  · rw [if_pos q2] at g; exact absurd g (by decide)
  rw [if_neg q2] at g
  by_cases q3 : sg_told h t q = 0
  · rw [if_pos q3] at g; exact absurd g (by decide)
  rw [if_neg q3] at g
  by_cases q4 : z_wi d 0 400 = 0
  · rw [if_pos q4] at g; exact absurd g (by decide)
  rw [if_neg q4] at g
  by_cases q5 : z_wi R 0 8 = 0
  · rw [if_pos q5] at g; exact absurd g (by decide)
  rw [if_neg q5] at g
  by_cases q6 : gsC h t k = 0
  · rw [if_pos q6] at g; exact absurd g (by decide)
  exact ⟨q1, q2, q3, q6⟩
theorem w_s30 {n : Nat} (hn : n < 6) (j : Nat) : wm [(37, 3), (37, 4), (37, 7), (37, 8), (37, 11), (37, 12), (37, 13), (37, 15), (38, 999), (39, 999), (40, 999), (41, 999), (42, 999), (43, 999), (44, 999), (95, 999)] (30 + n) j = false := by
  rcases (show n = 0 ∨ n = 1 ∨ n = 2 ∨ n = 3 ∨ n = 4 ∨ n = 5 by omega) with rfl | rfl | rfl | rfl | rfl | rfl <;> rfl

set_option maxRecDepth 100000 in
set_option maxHeartbeats 4000000 in
theorem x_set112T (L : Nat) (h : Hp) (hB : Bx h) (hS : RSo h) (hP : RPc h) (hsv : (h 2 0).toInt ≤ (h 2 3).toInt) (n : Nat) (hn : n < 6) (en : (nI n).toNatClampNeg = n) (k d q : Int32) (R : Nat) (hR : R ≤ 8) (eR : (nI R).toNatClampNeg = R) (g0 : r_sg h (nI n) k d (nI R) q = 0)  : EvQ mi_X9_set 112 [some (.ref 1), some (.int (nI n)), some (.int k), some (.int d), some (.int (nI R)), some (.int q), some (.int 1)] [] (G0 L true) h 0 0 (QI (fun r z => r = a_set h (nI n) k d (nI R) q ∧ RSo z) [(37, 3), (37, 4), (37, 7), (37, 8), (37, 11), (37, 12), (37, 13), (37, 15), (38, 999), (39, 999), (40, 999), (41, 999), (42, 999), (43, 999), (44, 999), (95, 999)] (G0 L true) h) := by
  obtain ⟨ht, hk, htl, hg⟩ := sg_0 g0
  have v1 := (B.nI (u := 200) (hB 2 3)).1
  have v2 := (B.nI (u := 200) (hB 2 3)).2
  have lw12 : nW h ≤ 12 := (B.nI (u := 12) (hB 4 7)).2
  have ew : h 4 7 = nI (nW h) := (B.nI (u := 12) (hB 4 7)).1
  have e20 : h 2 0 = nI (pP h) := (B.nI (u := 200) (hB 2 0)).1
  have m24 : pM h (nI n) ≤ 24 := (B.nI (u := 24) (hB 36 _)).2
  have e36 : h 36 n = nI (pM h (nI n)) := by
    unfold pM
    rw [en]
    exact (B.nI (u := 24) (hB 36 n)).1
  have p0V : pP h ≤ (h 2 3).toNatClampNeg := by
    show (h 2 0).toInt.toNat ≤ (h 2 3).toInt.toNat
    omega
  have pc := pC_ok hB hP ht hk hg
  have bq := told_BQ hB htl
  have j0 : JW [(37, 3), (39, 999)] h (k_tk h n k (pM h (nI n)) (pM h (nI n))) := jw_tk hB m24
  have dH : cD (k_tk h n k (pM h (nI n)) (pM h (nI n))) (nW h) = cD h (nW h) := funext (fun y => by
    unfold cD
    rw [j0.2 4 6 rfl]
    exact s_drawn_cg (fun k => j0.2 6 k rfl) _ _ _)
  have rH : ∀ p, cR (k_tk h n k (pM h (nI n)) (pM h (nI n))) (nW h) d p = cR h (nW h) d p := fun p => q_nm_cg _ (fun j _ => by
    unfold cP
    rw [o_off_cg (fun k => j0.2 7 k rfl) (fun k => j0.2 9 k rfl) (fun k => j0.2 10 k rfl)])
  refine ev_aload_n rfl rfl rfl ?_
  refine ev_getR rfl rfl fl_X9_50 rfl rfl rfl rfl ?_
  refine ev_iload_n rfl rfl rfl ?_
  refine ev_iload_n rfl rfl rfl ?_
  refine ev_iload_n rfl rfl rfl ?_
  refine ev_iload rfl rfl rfl ?_
  refine ev_aload_n rfl rfl rfl ?_
  refine ev_getR rfl rfl fl_X9_29 rfl rfl rfl rfl ?_
  refine ev_getI rfl rfl fl_X9_233 rfl rfl rfl ?_
  refine ev_V5D rfl rfl lk_X9_236 vt_X4_isFor rfl rfl rfl rfl rfl (c_isForX L true h (nI n) k d (nI R) (h 11 3)) ?_
  refine ev_if_ne rfl rfl (fun c_131 => ?_) (fun c_131 => ?_)
  · refine ev_aload_n rfl rfl rfl ?_
    refine ev_getR rfl rfl fl_X9_50 rfl rfl rfl rfl ?_
    refine ev_iload rfl rfl rfl ?_
    refine ev_V1D rfl rfl lk_X9_252 vt_X4_answer rfl rfl rfl rfl rfl (EvD.to (c_answerX L true h q bq) (show _ = a_set h (nI n) k d (nI R) q from ans_ok hB htl (for_ok hS c_131)) rfl) ?_
    exact ev_iret rfl rfl rfl (⟨⟨_, rfl, rfl, hS⟩, rfl, JW.refl hB⟩)
  · refine ev_aload_n rfl rfl rfl ?_
    refine ev_getR rfl rfl fl_X9_50 rfl rfl rfl rfl ?_
    refine ev_aload_n rfl rfl rfl ?_
    refine ev_getR rfl rfl fl_X9_43 rfl rfl rfl rfl ?_
    refine ev_iload_n rfl rfl rfl ?_
    refine ev_iload_n rfl rfl rfl ?_
    refine ev_V3U rfl rfl lk_X9_240 vt_X4_takeTune rfl rfl rfl rfl rfl (c_takeTuneE L true h n hn k (pM h (nI n)) m24 e36) ?_
    refine ev_aload_n rfl rfl rfl ?_
    refine ev_getR rfl rfl fl_X9_50 rfl rfl rfl rfl ?_
    refine ev_aload_n rfl rfl rfl ?_
    refine ev_getR rfl rfl fl_X9_10 rfl rfl rfl rfl ?_
    refine ev_aload_n rfl rfl rfl ?_
    refine ev_getR rfl rfl fl_X9_22 rfl rfl rfl rfl ?_
    refine ev_iload_n rfl rfl rfl ?_
    refine ev_iload rfl rfl rfl ?_
    refine ev_V4K (W := [(37, 3), (37, 4), (37, 7), (37, 8), (37, 11), (37, 12), (37, 13), (38, 999), (39, 999), (40, 999), (41, 999), (42, 999), (43, 999), (95, 999)]) (j0.widen rfl) rfl rfl rfl lk_X9_244 vt_X4_solve rfl rfl rfl rfl rfl (c_solveT L (k_tk h n k (pM h (nI n)) (pM h (nI n))) j0.1 (h 2 3).toNatClampNeg v2 (j0.2 2 3 rfl |>.trans v1) (nW h) lw12 (j0.2 4 7 rfl |>.trans ew) (pN h) (fun p y => by rw [j0.2 2 3 rfl, j0.2 2 2 rfl, dH]; exact (NN_sp (h 2 2) (cD h (nW h)) (hB 2 3) p y).1) (fun p y => (NN_sp (h 2 2) (cD h (nW h)) (hB 2 3) p y).2) R hR (pC h (nI n) k) (pM h (nI n)) m24 (fun i hi => (pc i hi).2.2.1) (fun i hi => (pc i hi).2.2.2) (k_tk_3 _ _ _ _ _) (fun i hi => (k_tk_39 hi).trans (by have z := (pc i hi).1; rw [en] at z; exact z)) d (pP h) p0V (j0.2 2 0 rfl |>.trans e20) (pA h (nI n) k d) (fun i p => by unfold pA; rw [rH])) (fun z j1 k2 q2 => ?_)
    have hz : JW [(37, 3), (37, 4), (37, 7), (37, 8), (37, 11), (37, 12), (37, 13), (37, 15), (38, 999), (39, 999), (40, 999), (41, 999), (42, 999), (43, 999), (44, 999), (95, 999)] h z := (j0.widen rfl).call k2 rfl
    have sok : SOK h z (nI n) k d (nI R) := by
      unfold SOK
      rw [eR]
      exact q2
    have c113 : z 11 3 = h 11 3 := hz.2 11 3 rfl
    refine ev_aload_n rfl rfl rfl ?_
    refine ev_getR rfl rfl fl_X9_50 rfl rfl rfl rfl ?_
    refine ev_iload_n rfl rfl rfl ?_
    refine ev_iload_n rfl rfl rfl ?_
    refine ev_iload_n rfl rfl rfl ?_
    refine ev_iload rfl rfl rfl ?_
    refine ev_aload_n rfl rfl rfl ?_
    refine ev_getR rfl rfl fl_X9_29 rfl rfl rfl rfl ?_
    refine ev_getI rfl rfl fl_X9_233 rfl rfl rfl ?_
    try simp only [c113]
    refine ev_V5U rfl rfl lk_X9_248 vt_X4_remember rfl rfl rfl rfl rfl (c_remember L true z (nI n) k d (nI R) (h 11 3)) ?_
    have sok2 : SOK h (k_rem z (nI n) k d (nI R) (h 11 3)) (nI n) k d (nI R) := sok.cg ⟨rfl, rfl, rfl, rfl, rfl, rfl⟩ (k_rem_ne (by decide) (by decide)) (k_rem_ne (by decide) (by decide)) (k_rem_ne (by decide) (by decide)) (fun j => k_rem_ne (by decide) (fun z => absurd z.1 (by decide))) (fun j => k_rem_ne (by decide) (fun z => absurd z.1 (by decide)))
    have hz2 : JW [(37, 3), (37, 4), (37, 7), (37, 8), (37, 11), (37, 12), (37, 13), (37, 15), (38, 999), (39, 999), (40, 999), (41, 999), (42, 999), (43, 999), (44, 999), (95, 999)] h (k_rem z (nI n) k d (nI R) (h 11 3)) := jw_rem hz (fun _ => rfl) rfl _ _ _ _ _
    have pcg := prob_cg (h := h) (h1 := k_rem z (nI n) k d (nI R) (h 11 3)) (fun j => hz2.2 2 j rfl) (fun j => hz2.2 4 j rfl) (fun j => hz2.2 6 j rfl) (fun j => hz2.2 7 j rfl) (fun j => hz2.2 9 j rfl) (fun j => hz2.2 10 j rfl) (t := nI n) (hz2.2 36 _ rfl) (fun j => hz2.2 _ j (by rw [en]; exact w_s30 hn j)) k d
    have hS2 : RSo (k_rem z (nI n) k d (nI R) (h 11 3)) := by
      refine Or.inr ⟨?_, fun _ => ⟨?_, fun i hi => ?_, ?_⟩⟩
      · rw [hz2.2 11 3 rfl]; exact Int.le_refl _
      · rw [hz2.2 28 2 rfl]; exact ht
      · rw [show k_rem z (nI n) k d (nI R) (h 11 3) 44 0 = nI n from rfl, pcg.2.2.2.1] at hi
        rw [show k_rem z (nI n) k d (nI R) (h 11 3) 44 0 = nI n from rfl, show k_rem z (nI n) k d (nI R) (h 11 3) 44 1 = k from rfl, pcg.2.1, pcg.2.2.2.2.2]
        exact (pc i hi).2.1
      · exact sok2.cg pcg rfl rfl rfl (fun _ => rfl) (fun _ => rfl)
    refine ev_aload_n rfl rfl rfl ?_
    refine ev_getR rfl rfl fl_X9_50 rfl rfl rfl rfl ?_
    refine ev_iload rfl rfl rfl ?_
    refine ev_V1D rfl rfl lk_X9_252 vt_X4_answer rfl rfl rfl rfl rfl (EvD.to (c_answerX L true _ q bq) (show _ = a_set h (nI n) k d (nI R) q from ans_ok hB htl sok2) rfl) ?_
    exact ev_iret rfl rfl rfl (⟨⟨_, rfl, rfl, hS2⟩, rfl, hz2⟩)

set_option maxRecDepth 100000 in
set_option maxHeartbeats 4000000 in
theorem x_set112F (L : Nat) (h : Hp) (hB : Bx h) (hz95 : ∀ j, h 95 j = 0) (hs15 : h 37 15 = 0) (hP : RPc h) (hsv : (h 2 0).toInt ≤ (h 2 3).toInt) (n : Nat) (hn : n < 6) (en : (nI n).toNatClampNeg = n) (k d q : Int32) (R : Nat) (hR : R ≤ 8) (eR : (nI R).toNatClampNeg = R) (g0 : r_sg h (nI n) k d (nI R) q = 0)  : EvQ mi_X9_set 112 [some (.ref 1), some (.int (nI n)), some (.int k), some (.int d), some (.int (nI R)), some (.int q), some (.int 1)] [] (G0 L false) h 1 45225 (QI (fun r z => r = a_set h (nI n) k d (nI R) q ∧ RSo z) [(37, 3), (37, 4), (37, 7), (37, 8), (37, 11), (37, 12), (37, 13), (37, 15), (38, 999), (39, 999), (40, 999), (41, 999), (42, 999), (43, 999), (44, 999), (95, 999)] (G0 L true) h) := by
  obtain ⟨ht, hk, htl, hg⟩ := sg_0 g0
  have v1 := (B.nI (u := 200) (hB 2 3)).1
  have v2 := (B.nI (u := 200) (hB 2 3)).2
  have lw12 : nW h ≤ 12 := (B.nI (u := 12) (hB 4 7)).2
  have ew : h 4 7 = nI (nW h) := (B.nI (u := 12) (hB 4 7)).1
  have e20 : h 2 0 = nI (pP h) := (B.nI (u := 200) (hB 2 0)).1
  have m24 : pM h (nI n) ≤ 24 := (B.nI (u := 24) (hB 36 _)).2
  have e36 : h 36 n = nI (pM h (nI n)) := by
    unfold pM
    rw [en]
    exact (B.nI (u := 24) (hB 36 n)).1
  have p0V : pP h ≤ (h 2 3).toNatClampNeg := by
    show (h 2 0).toInt.toNat ≤ (h 2 3).toInt.toNat
    omega
  have pc := pC_ok hB hP ht hk hg
  have bq := told_BQ hB htl
  have j0 : JW [(37, 3), (39, 999)] h (k_tk h n k (pM h (nI n)) (pM h (nI n))) := jw_tk hB m24
  have dH : cD (k_tk h n k (pM h (nI n)) (pM h (nI n))) (nW h) = cD h (nW h) := funext (fun y => by
    unfold cD
    rw [j0.2 4 6 rfl]
    exact s_drawn_cg (fun k => j0.2 6 k rfl) _ _ _)
  have rH : ∀ p, cR (k_tk h n k (pM h (nI n)) (pM h (nI n))) (nW h) d p = cR h (nW h) d p := fun p => q_nm_cg _ (fun j _ => by
    unfold cP
    rw [o_off_cg (fun k => j0.2 7 k rfl) (fun k => j0.2 9 k rfl) (fun k => j0.2 10 k rfl)])
  refine ev_aload_n rfl rfl rfl ?_
  refine ev_getR rfl rfl fl_X9_50 rfl rfl rfl rfl ?_
  refine ev_iload_n rfl rfl rfl ?_
  refine ev_iload_n rfl rfl rfl ?_
  refine ev_iload_n rfl rfl rfl ?_
  refine ev_iload rfl rfl rfl ?_
  refine ev_aload_n rfl rfl rfl ?_
  refine ev_getR rfl rfl fl_X9_29 rfl rfl rfl rfl ?_
  refine ev_getI rfl rfl fl_X9_233 rfl rfl rfl ?_
  refine ev_V5D rfl rfl lk_X9_236 vt_X4_isFor rfl rfl rfl rfl rfl (c_isForX L false h (nI n) k d (nI R) (h 11 3)) ?_
  refine ev_if_ne rfl rfl (fun z_ => absurd (show r_for h (nI n) k d (nI R) (h 11 3) = 0 from if_pos hs15) z_) (fun c_131 => ?_)
  refine ev_aload_n rfl rfl rfl ?_
  refine ev_getR rfl rfl fl_X9_50 rfl rfl rfl rfl ?_
  refine ev_aload_n rfl rfl rfl ?_
  refine ev_getR rfl rfl fl_X9_43 rfl rfl rfl rfl ?_
  refine ev_iload_n rfl rfl rfl ?_
  refine ev_iload_n rfl rfl rfl ?_
  refine ev_V3U rfl rfl lk_X9_240 vt_X4_takeTune rfl rfl rfl rfl rfl (c_takeTuneE L false h n hn k (pM h (nI n)) m24 e36) ?_
  refine ev_aload_n rfl rfl rfl ?_
  refine ev_getR rfl rfl fl_X9_50 rfl rfl rfl rfl ?_
  refine ev_aload_n rfl rfl rfl ?_
  refine ev_getR rfl rfl fl_X9_10 rfl rfl rfl rfl ?_
  refine ev_aload_n rfl rfl rfl ?_
  refine ev_getR rfl rfl fl_X9_22 rfl rfl rfl rfl ?_
  refine ev_iload_n rfl rfl rfl ?_
  refine ev_iload rfl rfl rfl ?_
  refine EvQ.cs (1 + 0) (45225 + 0) rfl rfl ?_
  refine ev_invV0 (As := [.ref 2, .ref 4, .int d, .int (nI R)]) rfl rfl lk_X9_244 vt_X4_solve rfl rfl rfl rfl rfl (by decide) (c_solveF L (k_tk h n k (pM h (nI n)) (pM h (nI n))) j0.1 (fun j => (j0.2 95 j rfl).trans (hz95 j)) (h 2 3).toNatClampNeg v2 (j0.2 2 3 rfl |>.trans v1) (nW h) lw12 (j0.2 4 7 rfl |>.trans ew) (pN h) (fun p y => by rw [j0.2 2 3 rfl, j0.2 2 2 rfl, dH]; exact (NN_sp (h 2 2) (cD h (nW h)) (hB 2 3) p y).1) (fun p y => (NN_sp (h 2 2) (cD h (nW h)) (hB 2 3) p y).2) R hR (pC h (nI n) k) (pM h (nI n)) m24 (fun i hi => (pc i hi).2.2.1) (fun i hi => (pc i hi).2.2.2) (k_tk_3 _ _ _ _ _) (fun i hi => (k_tk_39 hi).trans (by have z := (pc i hi).1; rw [en] at z; exact z)) d (pP h) p0V (j0.2 2 0 rfl |>.trans e20) (pA h (nI n) k d) (fun i p => by unfold pA; rw [rH])) (fun v_ G_ z hq_ _ => ?_)
  obtain ⟨rfl, rfl, k2, q2⟩ := hq_
  have hz : JW [(37, 3), (37, 4), (37, 7), (37, 8), (37, 11), (37, 12), (37, 13), (37, 15), (38, 999), (39, 999), (40, 999), (41, 999), (42, 999), (43, 999), (44, 999), (95, 999)] h z := (j0.widen rfl).call k2 rfl
  have sok : SOK h z (nI n) k d (nI R) := by
    unfold SOK
    rw [eR]
    exact q2
  have c113 : z 11 3 = h 11 3 := hz.2 11 3 rfl
  refine ev_aload_n rfl rfl rfl ?_
  refine ev_getR rfl rfl fl_X9_50 rfl rfl rfl rfl ?_
  refine ev_iload_n rfl rfl rfl ?_
  refine ev_iload_n rfl rfl rfl ?_
  refine ev_iload_n rfl rfl rfl ?_
  refine ev_iload rfl rfl rfl ?_
  refine ev_aload_n rfl rfl rfl ?_
  refine ev_getR rfl rfl fl_X9_29 rfl rfl rfl rfl ?_
  refine ev_getI rfl rfl fl_X9_233 rfl rfl rfl ?_
  try simp only [c113]
  refine ev_V5U rfl rfl lk_X9_248 vt_X4_remember rfl rfl rfl rfl rfl (c_remember L true z (nI n) k d (nI R) (h 11 3)) ?_
  have sok2 : SOK h (k_rem z (nI n) k d (nI R) (h 11 3)) (nI n) k d (nI R) := sok.cg ⟨rfl, rfl, rfl, rfl, rfl, rfl⟩ (k_rem_ne (by decide) (by decide)) (k_rem_ne (by decide) (by decide)) (k_rem_ne (by decide) (by decide)) (fun j => k_rem_ne (by decide) (fun z => absurd z.1 (by decide))) (fun j => k_rem_ne (by decide) (fun z => absurd z.1 (by decide)))
  have hz2 : JW [(37, 3), (37, 4), (37, 7), (37, 8), (37, 11), (37, 12), (37, 13), (37, 15), (38, 999), (39, 999), (40, 999), (41, 999), (42, 999), (43, 999), (44, 999), (95, 999)] h (k_rem z (nI n) k d (nI R) (h 11 3)) := jw_rem hz (fun _ => rfl) rfl _ _ _ _ _
  have pcg := prob_cg (h := h) (h1 := k_rem z (nI n) k d (nI R) (h 11 3)) (fun j => hz2.2 2 j rfl) (fun j => hz2.2 4 j rfl) (fun j => hz2.2 6 j rfl) (fun j => hz2.2 7 j rfl) (fun j => hz2.2 9 j rfl) (fun j => hz2.2 10 j rfl) (t := nI n) (hz2.2 36 _ rfl) (fun j => hz2.2 _ j (by rw [en]; exact w_s30 hn j)) k d
  have hS2 : RSo (k_rem z (nI n) k d (nI R) (h 11 3)) := by
    refine Or.inr ⟨?_, fun _ => ⟨?_, fun i hi => ?_, ?_⟩⟩
    · rw [hz2.2 11 3 rfl]; exact Int.le_refl _
    · rw [hz2.2 28 2 rfl]; exact ht
    · rw [show k_rem z (nI n) k d (nI R) (h 11 3) 44 0 = nI n from rfl, pcg.2.2.2.1] at hi
      rw [show k_rem z (nI n) k d (nI R) (h 11 3) 44 0 = nI n from rfl, show k_rem z (nI n) k d (nI R) (h 11 3) 44 1 = k from rfl, pcg.2.1, pcg.2.2.2.2.2]
      exact (pc i hi).2.1
    · exact sok2.cg pcg rfl rfl rfl (fun _ => rfl) (fun _ => rfl)
  refine ev_aload_n rfl rfl rfl ?_
  refine ev_getR rfl rfl fl_X9_50 rfl rfl rfl rfl ?_
  refine ev_iload rfl rfl rfl ?_
  refine ev_V1D rfl rfl lk_X9_252 vt_X4_answer rfl rfl rfl rfl rfl (EvD.to (c_answerX L true _ q bq) (show _ = a_set h (nI n) k d (nI R) q from ans_ok hB htl sok2) rfl) ?_
  exact ev_iret rfl rfl rfl (⟨⟨_, rfl, rfl, hS2⟩, rfl, hz2⟩)

theorem rst_nat {R : Int32} (c : ¬ z_wi R 0 8 = 0) : ∃ n : Nat, n ≤ 8 ∧ R = nI n ∧ (nI n).toNatClampNeg = n := by
  have p := z_wi_B (by decide : B 0 0 0) (by decide : B 8 8 8) c
  have e := B.nI (u := 8) p
  exact ⟨_, e.2, e.1, nI_clamp (by have := e.2; omega)⟩

set_option maxRecDepth 100000 in
set_option maxHeartbeats 4000000 in
theorem w_setT (L : Nat) (h : Hp) (hB : Bx h) (hS : RSo h) (hP : RPc h) (hsv : (h 2 0).toInt ≤ (h 2 3).toInt) (t k d R q : Int32) : EvI mi_X9_set [.ref 1, .int t, .int k, .int d, .int R, .int q] (G0 L true) h (fun r z => r = r_cs h t k d R q ∧ RSo z) [(37, 3), (37, 4), (37, 7), (37, 8), (37, 11), (37, 12), (37, 13), (37, 15), (38, 999), (39, 999), (40, 999), (41, 999), (42, 999), (43, 999), (44, 999), (95, 999)] := by
  refine EvM.of2 (lo := [some (.ref 1), some (.int t), some (.int k), some (.int d), some (.int R), some (.int q), none]) pf_X9_set ok_X9_set rfl rfl ?_
  refine ev_iload rfl rfl rfl ?_
  refine ev_iconst (v := 0) rfl rfl (by decide) ?_
  refine ev_iconst (v := 2) rfl rfl (by decide) ?_
  refine ev_S3D rfl rfl lk_X9_75 st_X9_isWithin rfl rfl (c_isWithin _ _ _ _ _) ?_
  refine ev_if_ne rfl rfl (fun c_7 => ?_) (fun c_7 => ?_)
  · refine ev_iconst (v := 1) rfl rfl (by decide) ?_
    refine ev_goto rfl rfl ?_
    refine ev_istore rfl rfl rfl rfl ?_
    dsimp only [List.set]
    refine ev_aload_n rfl rfl rfl ?_
    refine ev_getR rfl rfl fl_X9_43 rfl rfl rfl rfl ?_
    refine ev_iload_n rfl rfl rfl ?_
    refine ev_V1D rfl rfl lk_X9_195 vt_X7_has rfl rfl rfl rfl rfl (c_X7_hasE L true h _) ?_
    refine ev_if_eq rfl rfl (fun c_49 => ?_) (fun c_49 => ?_)
    · refine ev_iconst (v := (-1)) rfl rfl (by decide) ?_
      exact ev_iret rfl rfl rfl (⟨⟨_, rfl, r_cs_n (by simp only [r_sg, sg_told, if_neg c_7, if_pos c_49, if_true, if_neg (show ¬ (1 : Int32) = 0 by decide)]) (by decide), hS⟩, rfl, JW.refl hB⟩)
    · refine ev_iload_n rfl rfl rfl ?_
      refine ev_S1D rfl rfl lk_X9_227 st_X9_isKey rfl rfl (c_isKey _ _ _) ?_
      refine ev_if_eq rfl rfl (fun c_56 => ?_) (fun c_56 => ?_)
      · refine ev_iconst (v := (-1)) rfl rfl (by decide) ?_
        exact ev_iret rfl rfl rfl (⟨⟨_, rfl, r_cs_n (by simp only [r_sg, sg_told, if_neg c_7, if_neg c_49, if_pos c_56, if_true, if_neg (show ¬ (1 : Int32) = 0 by decide)]) (by decide), hS⟩, rfl, JW.refl hB⟩)
      · refine ev_iload rfl rfl rfl ?_
        refine ev_if_ne rfl rfl (fun c_61 => ?_) (fun z_ => absurd z_ (by decide))
        refine ev_iload_n rfl rfl rfl ?_
        refine ev_iconst (v := 0) rfl rfl (by decide) ?_
        refine ev_sipush (v := 400) rfl rfl (by decide) ?_
        refine ev_S3D rfl rfl lk_X9_75 st_X9_isWithin rfl rfl (c_isWithin _ _ _ _ _) ?_
        refine ev_if_eq rfl rfl (fun c_74 => ?_) (fun c_74 => ?_)
        · refine ev_iconst (v := (-1)) rfl rfl (by decide) ?_
          exact ev_iret rfl rfl rfl (⟨⟨_, rfl, r_cs_n (by simp only [r_sg, sg_told, if_neg c_7, if_neg c_49, if_neg c_56, if_neg c_61, if_pos c_74, if_true, if_neg (show ¬ (1 : Int32) = 0 by decide)]) (by decide), hS⟩, rfl, JW.refl hB⟩)
        · refine ev_iload rfl rfl rfl ?_
          refine ev_iconst (v := 0) rfl rfl (by decide) ?_
          refine ev_bipush (v := 8) rfl rfl (by decide) ?_
          refine ev_S3D rfl rfl lk_X9_75 st_X9_isWithin rfl rfl (c_isWithin _ _ _ _ _) ?_
          refine ev_if_ne rfl rfl (fun c_85 => ?_) (fun c_85 => ?_)
          · have pt : B t 0 5 := z_has_B5 hB c_49
            obtain ⟨n, hn, rfl, en⟩ := B.nat6 pt
            obtain ⟨R, hR, rfl, eR⟩ := rst_nat c_85
            refine ev_aload_n rfl rfl rfl ?_
            refine ev_getR rfl rfl fl_X9_43 rfl rfl rfl rfl ?_
            refine ev_iload_n rfl rfl rfl ?_
            refine ev_iload_n rfl rfl rfl ?_
            refine ev_aload_n rfl rfl rfl ?_
            refine ev_getR rfl rfl fl_X9_22 rfl rfl rfl rfl ?_
            refine ev_getI rfl rfl fl_X9_158 rfl rfl rfl ?_
            refine ev_V3D rfl rfl lk_X9_230 vt_X7_goes rfl rfl rfl rfl rfl (EvD.to (c_goes L true h n hn _ (B.nI (u := 24) (hB 36 n)).2 (B.nI (u := 24) (hB 36 n)).1 k (h 4 7)) (show _ = gsC h (nI n) k from by unfold gsC; rw [en]) rfl) ?_
            refine ev_if_ne rfl rfl (fun c_106 => ?_) (fun c_106 => ?_)
            · have g0 := (show r_sg h (nI n) k d (nI R) q = 0 from by simp only [r_sg, sg_told, if_neg c_7, if_neg c_49, if_neg c_56, if_neg c_61, if_neg c_74, if_neg c_85, if_neg c_106, if_true, if_neg (show ¬ (1 : Int32) = 0 by decide)])
              rw [show r_cs h (nI n) k d (nI R) q = a_set h (nI n) k d (nI R) q from if_pos g0]
              exact x_set112T L h hB hS hP hsv n hn en k d q R hR eR g0
            · refine ev_bipush (v := (-2)) rfl rfl (by decide) ?_
              exact ev_iret rfl rfl rfl (⟨⟨_, rfl, r_cs_n (by simp only [r_sg, sg_told, if_neg c_7, if_neg c_49, if_neg c_56, if_neg c_61, if_neg c_74, if_neg c_85, if_pos c_106, if_true, if_neg (show ¬ (1 : Int32) = 0 by decide)]) (by decide), hS⟩, rfl, JW.refl hB⟩)
          · refine ev_iconst (v := (-1)) rfl rfl (by decide) ?_
            exact ev_iret rfl rfl rfl (⟨⟨_, rfl, r_cs_n (by simp only [r_sg, sg_told, if_neg c_7, if_neg c_49, if_neg c_56, if_neg c_61, if_neg c_74, if_pos c_85, if_true, if_neg (show ¬ (1 : Int32) = 0 by decide)]) (by decide), hS⟩, rfl, JW.refl hB⟩)
  · refine ev_aload_n rfl rfl rfl ?_
    refine ev_iload_n rfl rfl rfl ?_
    refine ev_iload rfl rfl rfl ?_
    refine ev_bipush (v := 10) rfl rfl (by decide) ?_
    refine ev_V3D rfl rfl lk_X9_210 vt_X9_isBeat rfl rfl rfl rfl rfl (c_isBeatE L true h hB _ _ _) ?_
    refine ev_if_ne rfl rfl (fun c_19 => ?_) (fun c_19 => ?_)
    · refine ev_iconst (v := 1) rfl rfl (by decide) ?_
      refine ev_goto rfl rfl ?_
      refine ev_istore rfl rfl rfl rfl ?_
      dsimp only [List.set]
      refine ev_aload_n rfl rfl rfl ?_
      refine ev_getR rfl rfl fl_X9_43 rfl rfl rfl rfl ?_
      refine ev_iload_n rfl rfl rfl ?_
      refine ev_V1D rfl rfl lk_X9_195 vt_X7_has rfl rfl rfl rfl rfl (c_X7_hasE L true h _) ?_
      refine ev_if_eq rfl rfl (fun c_49 => ?_) (fun c_49 => ?_)
      · refine ev_iconst (v := (-1)) rfl rfl (by decide) ?_
        exact ev_iret rfl rfl rfl (⟨⟨_, rfl, r_cs_n (by simp only [r_sg, sg_told, if_pos c_7, if_neg c_19, if_pos c_49, if_true, if_neg (show ¬ (1 : Int32) = 0 by decide)]) (by decide), hS⟩, rfl, JW.refl hB⟩)
      · refine ev_iload_n rfl rfl rfl ?_
        refine ev_S1D rfl rfl lk_X9_227 st_X9_isKey rfl rfl (c_isKey _ _ _) ?_
        refine ev_if_eq rfl rfl (fun c_56 => ?_) (fun c_56 => ?_)
        · refine ev_iconst (v := (-1)) rfl rfl (by decide) ?_
          exact ev_iret rfl rfl rfl (⟨⟨_, rfl, r_cs_n (by simp only [r_sg, sg_told, if_pos c_7, if_neg c_19, if_neg c_49, if_pos c_56, if_true, if_neg (show ¬ (1 : Int32) = 0 by decide)]) (by decide), hS⟩, rfl, JW.refl hB⟩)
        · refine ev_iload rfl rfl rfl ?_
          refine ev_if_ne rfl rfl (fun c_61 => ?_) (fun z_ => absurd z_ (by decide))
          refine ev_iload_n rfl rfl rfl ?_
          refine ev_iconst (v := 0) rfl rfl (by decide) ?_
          refine ev_sipush (v := 400) rfl rfl (by decide) ?_
          refine ev_S3D rfl rfl lk_X9_75 st_X9_isWithin rfl rfl (c_isWithin _ _ _ _ _) ?_
          refine ev_if_eq rfl rfl (fun c_74 => ?_) (fun c_74 => ?_)
          · refine ev_iconst (v := (-1)) rfl rfl (by decide) ?_
            exact ev_iret rfl rfl rfl (⟨⟨_, rfl, r_cs_n (by simp only [r_sg, sg_told, if_pos c_7, if_neg c_19, if_neg c_49, if_neg c_56, if_neg c_61, if_pos c_74, if_true, if_neg (show ¬ (1 : Int32) = 0 by decide)]) (by decide), hS⟩, rfl, JW.refl hB⟩)
          · refine ev_iload rfl rfl rfl ?_
            refine ev_iconst (v := 0) rfl rfl (by decide) ?_
            refine ev_bipush (v := 8) rfl rfl (by decide) ?_
            refine ev_S3D rfl rfl lk_X9_75 st_X9_isWithin rfl rfl (c_isWithin _ _ _ _ _) ?_
            refine ev_if_ne rfl rfl (fun c_85 => ?_) (fun c_85 => ?_)
            · have pt : B t 0 5 := z_has_B5 hB c_49
              obtain ⟨n, hn, rfl, en⟩ := B.nat6 pt
              obtain ⟨R, hR, rfl, eR⟩ := rst_nat c_85
              refine ev_aload_n rfl rfl rfl ?_
              refine ev_getR rfl rfl fl_X9_43 rfl rfl rfl rfl ?_
              refine ev_iload_n rfl rfl rfl ?_
              refine ev_iload_n rfl rfl rfl ?_
              refine ev_aload_n rfl rfl rfl ?_
              refine ev_getR rfl rfl fl_X9_22 rfl rfl rfl rfl ?_
              refine ev_getI rfl rfl fl_X9_158 rfl rfl rfl ?_
              refine ev_V3D rfl rfl lk_X9_230 vt_X7_goes rfl rfl rfl rfl rfl (EvD.to (c_goes L true h n hn _ (B.nI (u := 24) (hB 36 n)).2 (B.nI (u := 24) (hB 36 n)).1 k (h 4 7)) (show _ = gsC h (nI n) k from by unfold gsC; rw [en]) rfl) ?_
              refine ev_if_ne rfl rfl (fun c_106 => ?_) (fun c_106 => ?_)
              · have g0 := (show r_sg h (nI n) k d (nI R) q = 0 from by simp only [r_sg, sg_told, if_pos c_7, if_neg c_19, if_neg c_49, if_neg c_56, if_neg c_61, if_neg c_74, if_neg c_85, if_neg c_106, if_true, if_neg (show ¬ (1 : Int32) = 0 by decide)])
                rw [show r_cs h (nI n) k d (nI R) q = a_set h (nI n) k d (nI R) q from if_pos g0]
                exact x_set112T L h hB hS hP hsv n hn en k d q R hR eR g0
              · refine ev_bipush (v := (-2)) rfl rfl (by decide) ?_
                exact ev_iret rfl rfl rfl (⟨⟨_, rfl, r_cs_n (by simp only [r_sg, sg_told, if_pos c_7, if_neg c_19, if_neg c_49, if_neg c_56, if_neg c_61, if_neg c_74, if_neg c_85, if_pos c_106, if_true, if_neg (show ¬ (1 : Int32) = 0 by decide)]) (by decide), hS⟩, rfl, JW.refl hB⟩)
            · refine ev_iconst (v := (-1)) rfl rfl (by decide) ?_
              exact ev_iret rfl rfl rfl (⟨⟨_, rfl, r_cs_n (by simp only [r_sg, sg_told, if_pos c_7, if_neg c_19, if_neg c_49, if_neg c_56, if_neg c_61, if_neg c_74, if_pos c_85, if_true, if_neg (show ¬ (1 : Int32) = 0 by decide)]) (by decide), hS⟩, rfl, JW.refl hB⟩)
    · refine ev_aload_n rfl rfl rfl ?_
      refine ev_iload_n rfl rfl rfl ?_
      refine ev_iload rfl rfl rfl ?_
      refine ev_bipush (v := 40) rfl rfl (by decide) ?_
      refine ev_V3D rfl rfl lk_X9_210 vt_X9_isBeat rfl rfl rfl rfl rfl (c_isBeatE L true h hB _ _ _) ?_
      refine ev_if_eq rfl rfl (fun c_31 => ?_) (fun c_31 => ?_)
      · refine ev_iconst (v := 0) rfl rfl (by decide) ?_
        refine ev_istore rfl rfl rfl rfl ?_
        dsimp only [List.set]
        refine ev_aload_n rfl rfl rfl ?_
        refine ev_getR rfl rfl fl_X9_43 rfl rfl rfl rfl ?_
        refine ev_iload_n rfl rfl rfl ?_
        refine ev_V1D rfl rfl lk_X9_195 vt_X7_has rfl rfl rfl rfl rfl (c_X7_hasE L true h _) ?_
        refine ev_if_eq rfl rfl (fun c_49 => ?_) (fun c_49 => ?_)
        · refine ev_iconst (v := (-1)) rfl rfl (by decide) ?_
          exact ev_iret rfl rfl rfl (⟨⟨_, rfl, r_cs_n (by simp only [r_sg, sg_told, if_pos c_7, if_pos c_19, if_pos c_31, if_pos c_49, if_true, if_neg (show ¬ (1 : Int32) = 0 by decide)]) (by decide), hS⟩, rfl, JW.refl hB⟩)
        · refine ev_iload_n rfl rfl rfl ?_
          refine ev_S1D rfl rfl lk_X9_227 st_X9_isKey rfl rfl (c_isKey _ _ _) ?_
          refine ev_if_eq rfl rfl (fun c_56 => ?_) (fun c_56 => ?_)
          · refine ev_iconst (v := (-1)) rfl rfl (by decide) ?_
            exact ev_iret rfl rfl rfl (⟨⟨_, rfl, r_cs_n (by simp only [r_sg, sg_told, if_pos c_7, if_pos c_19, if_pos c_31, if_neg c_49, if_pos c_56, if_true, if_neg (show ¬ (1 : Int32) = 0 by decide)]) (by decide), hS⟩, rfl, JW.refl hB⟩)
          · refine ev_iload rfl rfl rfl ?_
            refine ev_if_ne rfl rfl (fun z_ => absurd (by decide) z_) (fun c_61 => ?_)
            refine ev_iconst (v := (-1)) rfl rfl (by decide) ?_
            exact ev_iret rfl rfl rfl (⟨⟨_, rfl, r_cs_n (by simp only [r_sg, sg_told, if_pos c_7, if_pos c_19, if_pos c_31, if_neg c_49, if_neg c_56, if_pos c_61, if_true, if_neg (show ¬ (1 : Int32) = 0 by decide)]) (by decide), hS⟩, rfl, JW.refl hB⟩)
      · refine ev_iconst (v := 1) rfl rfl (by decide) ?_
        refine ev_goto rfl rfl ?_
        refine ev_istore rfl rfl rfl rfl ?_
        dsimp only [List.set]
        refine ev_aload_n rfl rfl rfl ?_
        refine ev_getR rfl rfl fl_X9_43 rfl rfl rfl rfl ?_
        refine ev_iload_n rfl rfl rfl ?_
        refine ev_V1D rfl rfl lk_X9_195 vt_X7_has rfl rfl rfl rfl rfl (c_X7_hasE L true h _) ?_
        refine ev_if_eq rfl rfl (fun c_49 => ?_) (fun c_49 => ?_)
        · refine ev_iconst (v := (-1)) rfl rfl (by decide) ?_
          exact ev_iret rfl rfl rfl (⟨⟨_, rfl, r_cs_n (by simp only [r_sg, sg_told, if_pos c_7, if_pos c_19, if_neg c_31, if_pos c_49, if_true, if_neg (show ¬ (1 : Int32) = 0 by decide)]) (by decide), hS⟩, rfl, JW.refl hB⟩)
        · refine ev_iload_n rfl rfl rfl ?_
          refine ev_S1D rfl rfl lk_X9_227 st_X9_isKey rfl rfl (c_isKey _ _ _) ?_
          refine ev_if_eq rfl rfl (fun c_56 => ?_) (fun c_56 => ?_)
          · refine ev_iconst (v := (-1)) rfl rfl (by decide) ?_
            exact ev_iret rfl rfl rfl (⟨⟨_, rfl, r_cs_n (by simp only [r_sg, sg_told, if_pos c_7, if_pos c_19, if_neg c_31, if_neg c_49, if_pos c_56, if_true, if_neg (show ¬ (1 : Int32) = 0 by decide)]) (by decide), hS⟩, rfl, JW.refl hB⟩)
          · refine ev_iload rfl rfl rfl ?_
            refine ev_if_ne rfl rfl (fun c_61 => ?_) (fun z_ => absurd z_ (by decide))
            refine ev_iload_n rfl rfl rfl ?_
            refine ev_iconst (v := 0) rfl rfl (by decide) ?_
            refine ev_sipush (v := 400) rfl rfl (by decide) ?_
            refine ev_S3D rfl rfl lk_X9_75 st_X9_isWithin rfl rfl (c_isWithin _ _ _ _ _) ?_
            refine ev_if_eq rfl rfl (fun c_74 => ?_) (fun c_74 => ?_)
            · refine ev_iconst (v := (-1)) rfl rfl (by decide) ?_
              exact ev_iret rfl rfl rfl (⟨⟨_, rfl, r_cs_n (by simp only [r_sg, sg_told, if_pos c_7, if_pos c_19, if_neg c_31, if_neg c_49, if_neg c_56, if_neg c_61, if_pos c_74, if_true, if_neg (show ¬ (1 : Int32) = 0 by decide)]) (by decide), hS⟩, rfl, JW.refl hB⟩)
            · refine ev_iload rfl rfl rfl ?_
              refine ev_iconst (v := 0) rfl rfl (by decide) ?_
              refine ev_bipush (v := 8) rfl rfl (by decide) ?_
              refine ev_S3D rfl rfl lk_X9_75 st_X9_isWithin rfl rfl (c_isWithin _ _ _ _ _) ?_
              refine ev_if_ne rfl rfl (fun c_85 => ?_) (fun c_85 => ?_)
              · have pt : B t 0 5 := z_has_B5 hB c_49
                obtain ⟨n, hn, rfl, en⟩ := B.nat6 pt
                obtain ⟨R, hR, rfl, eR⟩ := rst_nat c_85
                refine ev_aload_n rfl rfl rfl ?_
                refine ev_getR rfl rfl fl_X9_43 rfl rfl rfl rfl ?_
                refine ev_iload_n rfl rfl rfl ?_
                refine ev_iload_n rfl rfl rfl ?_
                refine ev_aload_n rfl rfl rfl ?_
                refine ev_getR rfl rfl fl_X9_22 rfl rfl rfl rfl ?_
                refine ev_getI rfl rfl fl_X9_158 rfl rfl rfl ?_
                refine ev_V3D rfl rfl lk_X9_230 vt_X7_goes rfl rfl rfl rfl rfl (EvD.to (c_goes L true h n hn _ (B.nI (u := 24) (hB 36 n)).2 (B.nI (u := 24) (hB 36 n)).1 k (h 4 7)) (show _ = gsC h (nI n) k from by unfold gsC; rw [en]) rfl) ?_
                refine ev_if_ne rfl rfl (fun c_106 => ?_) (fun c_106 => ?_)
                · have g0 := (show r_sg h (nI n) k d (nI R) q = 0 from by simp only [r_sg, sg_told, if_pos c_7, if_pos c_19, if_neg c_31, if_neg c_49, if_neg c_56, if_neg c_61, if_neg c_74, if_neg c_85, if_neg c_106, if_true, if_neg (show ¬ (1 : Int32) = 0 by decide)])
                  rw [show r_cs h (nI n) k d (nI R) q = a_set h (nI n) k d (nI R) q from if_pos g0]
                  exact x_set112T L h hB hS hP hsv n hn en k d q R hR eR g0
                · refine ev_bipush (v := (-2)) rfl rfl (by decide) ?_
                  exact ev_iret rfl rfl rfl (⟨⟨_, rfl, r_cs_n (by simp only [r_sg, sg_told, if_pos c_7, if_pos c_19, if_neg c_31, if_neg c_49, if_neg c_56, if_neg c_61, if_neg c_74, if_neg c_85, if_pos c_106, if_true, if_neg (show ¬ (1 : Int32) = 0 by decide)]) (by decide), hS⟩, rfl, JW.refl hB⟩)
              · refine ev_iconst (v := (-1)) rfl rfl (by decide) ?_
                exact ev_iret rfl rfl rfl (⟨⟨_, rfl, r_cs_n (by simp only [r_sg, sg_told, if_pos c_7, if_pos c_19, if_neg c_31, if_neg c_49, if_neg c_56, if_neg c_61, if_neg c_74, if_pos c_85, if_true, if_neg (show ¬ (1 : Int32) = 0 by decide)]) (by decide), hS⟩, rfl, JW.refl hB⟩)

set_option maxRecDepth 100000 in
set_option maxHeartbeats 4000000 in
theorem w_setF0 (L : Nat) (h : Hp) (hB : Bx h) (t k d R q : Int32) (gn : ¬ r_sg h t k d R q = 0) : EvM mi_X9_set [.ref 1, .int t, .int k, .int d, .int R, .int q] (G0 L false) h 0 0 (fun v G' h' => v = some (.int (r_cs h t k d R q)) ∧ G' = G0 L false ∧ h' = h) := by
  refine EvM.of2 (lo := [some (.ref 1), some (.int t), some (.int k), some (.int d), some (.int R), some (.int q), none]) pf_X9_set ok_X9_set rfl rfl ?_
  refine ev_iload rfl rfl rfl ?_
  refine ev_iconst (v := 0) rfl rfl (by decide) ?_
  refine ev_iconst (v := 2) rfl rfl (by decide) ?_
  refine ev_S3D rfl rfl lk_X9_75 st_X9_isWithin rfl rfl (c_isWithin _ _ _ _ _) ?_
  refine ev_if_ne rfl rfl (fun c_7 => ?_) (fun c_7 => ?_)
  · refine ev_iconst (v := 1) rfl rfl (by decide) ?_
    refine ev_goto rfl rfl ?_
    refine ev_istore rfl rfl rfl rfl ?_
    dsimp only [List.set]
    refine ev_aload_n rfl rfl rfl ?_
    refine ev_getR rfl rfl fl_X9_43 rfl rfl rfl rfl ?_
    refine ev_iload_n rfl rfl rfl ?_
    refine ev_V1D rfl rfl lk_X9_195 vt_X7_has rfl rfl rfl rfl rfl (c_X7_hasE L false h _) ?_
    refine ev_if_eq rfl rfl (fun c_49 => ?_) (fun c_49 => ?_)
    · refine ev_iconst (v := (-1)) rfl rfl (by decide) ?_
      exact ev_iret rfl rfl rfl (⟨congrArg (fun z => some (Value.int z)) (r_cs_n (by simp only [r_sg, sg_told, if_neg c_7, if_pos c_49, if_true, if_neg (show ¬ (1 : Int32) = 0 by decide)]) (by decide)), rfl, rfl⟩)
    · refine ev_iload_n rfl rfl rfl ?_
      refine ev_S1D rfl rfl lk_X9_227 st_X9_isKey rfl rfl (c_isKey _ _ _) ?_
      refine ev_if_eq rfl rfl (fun c_56 => ?_) (fun c_56 => ?_)
      · refine ev_iconst (v := (-1)) rfl rfl (by decide) ?_
        exact ev_iret rfl rfl rfl (⟨congrArg (fun z => some (Value.int z)) (r_cs_n (by simp only [r_sg, sg_told, if_neg c_7, if_neg c_49, if_pos c_56, if_true, if_neg (show ¬ (1 : Int32) = 0 by decide)]) (by decide)), rfl, rfl⟩)
      · refine ev_iload rfl rfl rfl ?_
        refine ev_if_ne rfl rfl (fun c_61 => ?_) (fun z_ => absurd z_ (by decide))
        refine ev_iload_n rfl rfl rfl ?_
        refine ev_iconst (v := 0) rfl rfl (by decide) ?_
        refine ev_sipush (v := 400) rfl rfl (by decide) ?_
        refine ev_S3D rfl rfl lk_X9_75 st_X9_isWithin rfl rfl (c_isWithin _ _ _ _ _) ?_
        refine ev_if_eq rfl rfl (fun c_74 => ?_) (fun c_74 => ?_)
        · refine ev_iconst (v := (-1)) rfl rfl (by decide) ?_
          exact ev_iret rfl rfl rfl (⟨congrArg (fun z => some (Value.int z)) (r_cs_n (by simp only [r_sg, sg_told, if_neg c_7, if_neg c_49, if_neg c_56, if_neg c_61, if_pos c_74, if_true, if_neg (show ¬ (1 : Int32) = 0 by decide)]) (by decide)), rfl, rfl⟩)
        · refine ev_iload rfl rfl rfl ?_
          refine ev_iconst (v := 0) rfl rfl (by decide) ?_
          refine ev_bipush (v := 8) rfl rfl (by decide) ?_
          refine ev_S3D rfl rfl lk_X9_75 st_X9_isWithin rfl rfl (c_isWithin _ _ _ _ _) ?_
          refine ev_if_ne rfl rfl (fun c_85 => ?_) (fun c_85 => ?_)
          · have pt : B t 0 5 := z_has_B5 hB c_49
            obtain ⟨n, hn, rfl, en⟩ := B.nat6 pt
            obtain ⟨R, hR, rfl, eR⟩ := rst_nat c_85
            refine ev_aload_n rfl rfl rfl ?_
            refine ev_getR rfl rfl fl_X9_43 rfl rfl rfl rfl ?_
            refine ev_iload_n rfl rfl rfl ?_
            refine ev_iload_n rfl rfl rfl ?_
            refine ev_aload_n rfl rfl rfl ?_
            refine ev_getR rfl rfl fl_X9_22 rfl rfl rfl rfl ?_
            refine ev_getI rfl rfl fl_X9_158 rfl rfl rfl ?_
            refine ev_V3D rfl rfl lk_X9_230 vt_X7_goes rfl rfl rfl rfl rfl (EvD.to (c_goes L false h n hn _ (B.nI (u := 24) (hB 36 n)).2 (B.nI (u := 24) (hB 36 n)).1 k (h 4 7)) (show _ = gsC h (nI n) k from by unfold gsC; rw [en]) rfl) ?_
            refine ev_if_ne rfl rfl (fun c_106 => ?_) (fun c_106 => ?_)
            · exact absurd (show r_sg h (nI n) k d (nI R) q = 0 from by simp only [r_sg, sg_told, if_neg c_7, if_neg c_49, if_neg c_56, if_neg c_61, if_neg c_74, if_neg c_85, if_neg c_106, if_true, if_neg (show ¬ (1 : Int32) = 0 by decide)]) gn
            · refine ev_bipush (v := (-2)) rfl rfl (by decide) ?_
              exact ev_iret rfl rfl rfl (⟨congrArg (fun z => some (Value.int z)) (r_cs_n (by simp only [r_sg, sg_told, if_neg c_7, if_neg c_49, if_neg c_56, if_neg c_61, if_neg c_74, if_neg c_85, if_pos c_106, if_true, if_neg (show ¬ (1 : Int32) = 0 by decide)]) (by decide)), rfl, rfl⟩)
          · refine ev_iconst (v := (-1)) rfl rfl (by decide) ?_
            exact ev_iret rfl rfl rfl (⟨congrArg (fun z => some (Value.int z)) (r_cs_n (by simp only [r_sg, sg_told, if_neg c_7, if_neg c_49, if_neg c_56, if_neg c_61, if_neg c_74, if_pos c_85, if_true, if_neg (show ¬ (1 : Int32) = 0 by decide)]) (by decide)), rfl, rfl⟩)
  · refine ev_aload_n rfl rfl rfl ?_
    refine ev_iload_n rfl rfl rfl ?_
    refine ev_iload rfl rfl rfl ?_
    refine ev_bipush (v := 10) rfl rfl (by decide) ?_
    refine ev_V3D rfl rfl lk_X9_210 vt_X9_isBeat rfl rfl rfl rfl rfl (c_isBeatE L false h hB _ _ _) ?_
    refine ev_if_ne rfl rfl (fun c_19 => ?_) (fun c_19 => ?_)
    · refine ev_iconst (v := 1) rfl rfl (by decide) ?_
      refine ev_goto rfl rfl ?_
      refine ev_istore rfl rfl rfl rfl ?_
      dsimp only [List.set]
      refine ev_aload_n rfl rfl rfl ?_
      refine ev_getR rfl rfl fl_X9_43 rfl rfl rfl rfl ?_
      refine ev_iload_n rfl rfl rfl ?_
      refine ev_V1D rfl rfl lk_X9_195 vt_X7_has rfl rfl rfl rfl rfl (c_X7_hasE L false h _) ?_
      refine ev_if_eq rfl rfl (fun c_49 => ?_) (fun c_49 => ?_)
      · refine ev_iconst (v := (-1)) rfl rfl (by decide) ?_
        exact ev_iret rfl rfl rfl (⟨congrArg (fun z => some (Value.int z)) (r_cs_n (by simp only [r_sg, sg_told, if_pos c_7, if_neg c_19, if_pos c_49, if_true, if_neg (show ¬ (1 : Int32) = 0 by decide)]) (by decide)), rfl, rfl⟩)
      · refine ev_iload_n rfl rfl rfl ?_
        refine ev_S1D rfl rfl lk_X9_227 st_X9_isKey rfl rfl (c_isKey _ _ _) ?_
        refine ev_if_eq rfl rfl (fun c_56 => ?_) (fun c_56 => ?_)
        · refine ev_iconst (v := (-1)) rfl rfl (by decide) ?_
          exact ev_iret rfl rfl rfl (⟨congrArg (fun z => some (Value.int z)) (r_cs_n (by simp only [r_sg, sg_told, if_pos c_7, if_neg c_19, if_neg c_49, if_pos c_56, if_true, if_neg (show ¬ (1 : Int32) = 0 by decide)]) (by decide)), rfl, rfl⟩)
        · refine ev_iload rfl rfl rfl ?_
          refine ev_if_ne rfl rfl (fun c_61 => ?_) (fun z_ => absurd z_ (by decide))
          refine ev_iload_n rfl rfl rfl ?_
          refine ev_iconst (v := 0) rfl rfl (by decide) ?_
          refine ev_sipush (v := 400) rfl rfl (by decide) ?_
          refine ev_S3D rfl rfl lk_X9_75 st_X9_isWithin rfl rfl (c_isWithin _ _ _ _ _) ?_
          refine ev_if_eq rfl rfl (fun c_74 => ?_) (fun c_74 => ?_)
          · refine ev_iconst (v := (-1)) rfl rfl (by decide) ?_
            exact ev_iret rfl rfl rfl (⟨congrArg (fun z => some (Value.int z)) (r_cs_n (by simp only [r_sg, sg_told, if_pos c_7, if_neg c_19, if_neg c_49, if_neg c_56, if_neg c_61, if_pos c_74, if_true, if_neg (show ¬ (1 : Int32) = 0 by decide)]) (by decide)), rfl, rfl⟩)
          · refine ev_iload rfl rfl rfl ?_
            refine ev_iconst (v := 0) rfl rfl (by decide) ?_
            refine ev_bipush (v := 8) rfl rfl (by decide) ?_
            refine ev_S3D rfl rfl lk_X9_75 st_X9_isWithin rfl rfl (c_isWithin _ _ _ _ _) ?_
            refine ev_if_ne rfl rfl (fun c_85 => ?_) (fun c_85 => ?_)
            · have pt : B t 0 5 := z_has_B5 hB c_49
              obtain ⟨n, hn, rfl, en⟩ := B.nat6 pt
              obtain ⟨R, hR, rfl, eR⟩ := rst_nat c_85
              refine ev_aload_n rfl rfl rfl ?_
              refine ev_getR rfl rfl fl_X9_43 rfl rfl rfl rfl ?_
              refine ev_iload_n rfl rfl rfl ?_
              refine ev_iload_n rfl rfl rfl ?_
              refine ev_aload_n rfl rfl rfl ?_
              refine ev_getR rfl rfl fl_X9_22 rfl rfl rfl rfl ?_
              refine ev_getI rfl rfl fl_X9_158 rfl rfl rfl ?_
              refine ev_V3D rfl rfl lk_X9_230 vt_X7_goes rfl rfl rfl rfl rfl (EvD.to (c_goes L false h n hn _ (B.nI (u := 24) (hB 36 n)).2 (B.nI (u := 24) (hB 36 n)).1 k (h 4 7)) (show _ = gsC h (nI n) k from by unfold gsC; rw [en]) rfl) ?_
              refine ev_if_ne rfl rfl (fun c_106 => ?_) (fun c_106 => ?_)
              · exact absurd (show r_sg h (nI n) k d (nI R) q = 0 from by simp only [r_sg, sg_told, if_pos c_7, if_neg c_19, if_neg c_49, if_neg c_56, if_neg c_61, if_neg c_74, if_neg c_85, if_neg c_106, if_true, if_neg (show ¬ (1 : Int32) = 0 by decide)]) gn
              · refine ev_bipush (v := (-2)) rfl rfl (by decide) ?_
                exact ev_iret rfl rfl rfl (⟨congrArg (fun z => some (Value.int z)) (r_cs_n (by simp only [r_sg, sg_told, if_pos c_7, if_neg c_19, if_neg c_49, if_neg c_56, if_neg c_61, if_neg c_74, if_neg c_85, if_pos c_106, if_true, if_neg (show ¬ (1 : Int32) = 0 by decide)]) (by decide)), rfl, rfl⟩)
            · refine ev_iconst (v := (-1)) rfl rfl (by decide) ?_
              exact ev_iret rfl rfl rfl (⟨congrArg (fun z => some (Value.int z)) (r_cs_n (by simp only [r_sg, sg_told, if_pos c_7, if_neg c_19, if_neg c_49, if_neg c_56, if_neg c_61, if_neg c_74, if_pos c_85, if_true, if_neg (show ¬ (1 : Int32) = 0 by decide)]) (by decide)), rfl, rfl⟩)
    · refine ev_aload_n rfl rfl rfl ?_
      refine ev_iload_n rfl rfl rfl ?_
      refine ev_iload rfl rfl rfl ?_
      refine ev_bipush (v := 40) rfl rfl (by decide) ?_
      refine ev_V3D rfl rfl lk_X9_210 vt_X9_isBeat rfl rfl rfl rfl rfl (c_isBeatE L false h hB _ _ _) ?_
      refine ev_if_eq rfl rfl (fun c_31 => ?_) (fun c_31 => ?_)
      · refine ev_iconst (v := 0) rfl rfl (by decide) ?_
        refine ev_istore rfl rfl rfl rfl ?_
        dsimp only [List.set]
        refine ev_aload_n rfl rfl rfl ?_
        refine ev_getR rfl rfl fl_X9_43 rfl rfl rfl rfl ?_
        refine ev_iload_n rfl rfl rfl ?_
        refine ev_V1D rfl rfl lk_X9_195 vt_X7_has rfl rfl rfl rfl rfl (c_X7_hasE L false h _) ?_
        refine ev_if_eq rfl rfl (fun c_49 => ?_) (fun c_49 => ?_)
        · refine ev_iconst (v := (-1)) rfl rfl (by decide) ?_
          exact ev_iret rfl rfl rfl (⟨congrArg (fun z => some (Value.int z)) (r_cs_n (by simp only [r_sg, sg_told, if_pos c_7, if_pos c_19, if_pos c_31, if_pos c_49, if_true, if_neg (show ¬ (1 : Int32) = 0 by decide)]) (by decide)), rfl, rfl⟩)
        · refine ev_iload_n rfl rfl rfl ?_
          refine ev_S1D rfl rfl lk_X9_227 st_X9_isKey rfl rfl (c_isKey _ _ _) ?_
          refine ev_if_eq rfl rfl (fun c_56 => ?_) (fun c_56 => ?_)
          · refine ev_iconst (v := (-1)) rfl rfl (by decide) ?_
            exact ev_iret rfl rfl rfl (⟨congrArg (fun z => some (Value.int z)) (r_cs_n (by simp only [r_sg, sg_told, if_pos c_7, if_pos c_19, if_pos c_31, if_neg c_49, if_pos c_56, if_true, if_neg (show ¬ (1 : Int32) = 0 by decide)]) (by decide)), rfl, rfl⟩)
          · refine ev_iload rfl rfl rfl ?_
            refine ev_if_ne rfl rfl (fun z_ => absurd (by decide) z_) (fun c_61 => ?_)
            refine ev_iconst (v := (-1)) rfl rfl (by decide) ?_
            exact ev_iret rfl rfl rfl (⟨congrArg (fun z => some (Value.int z)) (r_cs_n (by simp only [r_sg, sg_told, if_pos c_7, if_pos c_19, if_pos c_31, if_neg c_49, if_neg c_56, if_pos c_61, if_true, if_neg (show ¬ (1 : Int32) = 0 by decide)]) (by decide)), rfl, rfl⟩)
      · refine ev_iconst (v := 1) rfl rfl (by decide) ?_
        refine ev_goto rfl rfl ?_
        refine ev_istore rfl rfl rfl rfl ?_
        dsimp only [List.set]
        refine ev_aload_n rfl rfl rfl ?_
        refine ev_getR rfl rfl fl_X9_43 rfl rfl rfl rfl ?_
        refine ev_iload_n rfl rfl rfl ?_
        refine ev_V1D rfl rfl lk_X9_195 vt_X7_has rfl rfl rfl rfl rfl (c_X7_hasE L false h _) ?_
        refine ev_if_eq rfl rfl (fun c_49 => ?_) (fun c_49 => ?_)
        · refine ev_iconst (v := (-1)) rfl rfl (by decide) ?_
          exact ev_iret rfl rfl rfl (⟨congrArg (fun z => some (Value.int z)) (r_cs_n (by simp only [r_sg, sg_told, if_pos c_7, if_pos c_19, if_neg c_31, if_pos c_49, if_true, if_neg (show ¬ (1 : Int32) = 0 by decide)]) (by decide)), rfl, rfl⟩)
        · refine ev_iload_n rfl rfl rfl ?_
          refine ev_S1D rfl rfl lk_X9_227 st_X9_isKey rfl rfl (c_isKey _ _ _) ?_
          refine ev_if_eq rfl rfl (fun c_56 => ?_) (fun c_56 => ?_)
          · refine ev_iconst (v := (-1)) rfl rfl (by decide) ?_
            exact ev_iret rfl rfl rfl (⟨congrArg (fun z => some (Value.int z)) (r_cs_n (by simp only [r_sg, sg_told, if_pos c_7, if_pos c_19, if_neg c_31, if_neg c_49, if_pos c_56, if_true, if_neg (show ¬ (1 : Int32) = 0 by decide)]) (by decide)), rfl, rfl⟩)
          · refine ev_iload rfl rfl rfl ?_
            refine ev_if_ne rfl rfl (fun c_61 => ?_) (fun z_ => absurd z_ (by decide))
            refine ev_iload_n rfl rfl rfl ?_
            refine ev_iconst (v := 0) rfl rfl (by decide) ?_
            refine ev_sipush (v := 400) rfl rfl (by decide) ?_
            refine ev_S3D rfl rfl lk_X9_75 st_X9_isWithin rfl rfl (c_isWithin _ _ _ _ _) ?_
            refine ev_if_eq rfl rfl (fun c_74 => ?_) (fun c_74 => ?_)
            · refine ev_iconst (v := (-1)) rfl rfl (by decide) ?_
              exact ev_iret rfl rfl rfl (⟨congrArg (fun z => some (Value.int z)) (r_cs_n (by simp only [r_sg, sg_told, if_pos c_7, if_pos c_19, if_neg c_31, if_neg c_49, if_neg c_56, if_neg c_61, if_pos c_74, if_true, if_neg (show ¬ (1 : Int32) = 0 by decide)]) (by decide)), rfl, rfl⟩)
            · refine ev_iload rfl rfl rfl ?_
              refine ev_iconst (v := 0) rfl rfl (by decide) ?_
              refine ev_bipush (v := 8) rfl rfl (by decide) ?_
              refine ev_S3D rfl rfl lk_X9_75 st_X9_isWithin rfl rfl (c_isWithin _ _ _ _ _) ?_
              refine ev_if_ne rfl rfl (fun c_85 => ?_) (fun c_85 => ?_)
              · have pt : B t 0 5 := z_has_B5 hB c_49
                obtain ⟨n, hn, rfl, en⟩ := B.nat6 pt
                obtain ⟨R, hR, rfl, eR⟩ := rst_nat c_85
                refine ev_aload_n rfl rfl rfl ?_
                refine ev_getR rfl rfl fl_X9_43 rfl rfl rfl rfl ?_
                refine ev_iload_n rfl rfl rfl ?_
                refine ev_iload_n rfl rfl rfl ?_
                refine ev_aload_n rfl rfl rfl ?_
                refine ev_getR rfl rfl fl_X9_22 rfl rfl rfl rfl ?_
                refine ev_getI rfl rfl fl_X9_158 rfl rfl rfl ?_
                refine ev_V3D rfl rfl lk_X9_230 vt_X7_goes rfl rfl rfl rfl rfl (EvD.to (c_goes L false h n hn _ (B.nI (u := 24) (hB 36 n)).2 (B.nI (u := 24) (hB 36 n)).1 k (h 4 7)) (show _ = gsC h (nI n) k from by unfold gsC; rw [en]) rfl) ?_
                refine ev_if_ne rfl rfl (fun c_106 => ?_) (fun c_106 => ?_)
                · exact absurd (show r_sg h (nI n) k d (nI R) q = 0 from by simp only [r_sg, sg_told, if_pos c_7, if_pos c_19, if_neg c_31, if_neg c_49, if_neg c_56, if_neg c_61, if_neg c_74, if_neg c_85, if_neg c_106, if_true, if_neg (show ¬ (1 : Int32) = 0 by decide)]) gn
                · refine ev_bipush (v := (-2)) rfl rfl (by decide) ?_
                  exact ev_iret rfl rfl rfl (⟨congrArg (fun z => some (Value.int z)) (r_cs_n (by simp only [r_sg, sg_told, if_pos c_7, if_pos c_19, if_neg c_31, if_neg c_49, if_neg c_56, if_neg c_61, if_neg c_74, if_neg c_85, if_pos c_106, if_true, if_neg (show ¬ (1 : Int32) = 0 by decide)]) (by decide)), rfl, rfl⟩)
              · refine ev_iconst (v := (-1)) rfl rfl (by decide) ?_
                exact ev_iret rfl rfl rfl (⟨congrArg (fun z => some (Value.int z)) (r_cs_n (by simp only [r_sg, sg_told, if_pos c_7, if_pos c_19, if_neg c_31, if_neg c_49, if_neg c_56, if_neg c_61, if_neg c_74, if_pos c_85, if_true, if_neg (show ¬ (1 : Int32) = 0 by decide)]) (by decide)), rfl, rfl⟩)

set_option maxRecDepth 100000 in
set_option maxHeartbeats 4000000 in
theorem w_setF1 (L : Nat) (h : Hp) (hB : Bx h) (hz95 : ∀ j, h 95 j = 0) (hs15 : h 37 15 = 0) (hP : RPc h) (hsv : (h 2 0).toInt ≤ (h 2 3).toInt) (t k d R q : Int32) (g0 : r_sg h t k d R q = 0) : EvM mi_X9_set [.ref 1, .int t, .int k, .int d, .int R, .int q] (G0 L false) h 1 45225 (QI (fun r z => r = r_cs h t k d R q ∧ RSo z) [(37, 3), (37, 4), (37, 7), (37, 8), (37, 11), (37, 12), (37, 13), (37, 15), (38, 999), (39, 999), (40, 999), (41, 999), (42, 999), (43, 999), (44, 999), (95, 999)] (G0 L true) h) := by
  refine EvM.of2 (lo := [some (.ref 1), some (.int t), some (.int k), some (.int d), some (.int R), some (.int q), none]) pf_X9_set ok_X9_set rfl rfl ?_
  refine ev_iload rfl rfl rfl ?_
  refine ev_iconst (v := 0) rfl rfl (by decide) ?_
  refine ev_iconst (v := 2) rfl rfl (by decide) ?_
  refine ev_S3D rfl rfl lk_X9_75 st_X9_isWithin rfl rfl (c_isWithin _ _ _ _ _) ?_
  refine ev_if_ne rfl rfl (fun c_7 => ?_) (fun c_7 => ?_)
  · refine ev_iconst (v := 1) rfl rfl (by decide) ?_
    refine ev_goto rfl rfl ?_
    refine ev_istore rfl rfl rfl rfl ?_
    dsimp only [List.set]
    refine ev_aload_n rfl rfl rfl ?_
    refine ev_getR rfl rfl fl_X9_43 rfl rfl rfl rfl ?_
    refine ev_iload_n rfl rfl rfl ?_
    refine ev_V1D rfl rfl lk_X9_195 vt_X7_has rfl rfl rfl rfl rfl (c_X7_hasE L false h _) ?_
    refine ev_if_eq rfl rfl (fun c_49 => ?_) (fun c_49 => ?_)
    · refine ev_iconst (v := (-1)) rfl rfl (by decide) ?_
      exact ev_iret rfl rfl rfl (absurd (g0.symm.trans (show r_sg h _ k d _ q = (-1 : Int32) from by simp only [r_sg, sg_told, if_neg c_7, if_pos c_49, if_true, if_neg (show ¬ (1 : Int32) = 0 by decide)])) (by decide))
    · refine ev_iload_n rfl rfl rfl ?_
      refine ev_S1D rfl rfl lk_X9_227 st_X9_isKey rfl rfl (c_isKey _ _ _) ?_
      refine ev_if_eq rfl rfl (fun c_56 => ?_) (fun c_56 => ?_)
      · refine ev_iconst (v := (-1)) rfl rfl (by decide) ?_
        exact ev_iret rfl rfl rfl (absurd (g0.symm.trans (show r_sg h _ k d _ q = (-1 : Int32) from by simp only [r_sg, sg_told, if_neg c_7, if_neg c_49, if_pos c_56, if_true, if_neg (show ¬ (1 : Int32) = 0 by decide)])) (by decide))
      · refine ev_iload rfl rfl rfl ?_
        refine ev_if_ne rfl rfl (fun c_61 => ?_) (fun z_ => absurd z_ (by decide))
        refine ev_iload_n rfl rfl rfl ?_
        refine ev_iconst (v := 0) rfl rfl (by decide) ?_
        refine ev_sipush (v := 400) rfl rfl (by decide) ?_
        refine ev_S3D rfl rfl lk_X9_75 st_X9_isWithin rfl rfl (c_isWithin _ _ _ _ _) ?_
        refine ev_if_eq rfl rfl (fun c_74 => ?_) (fun c_74 => ?_)
        · refine ev_iconst (v := (-1)) rfl rfl (by decide) ?_
          exact ev_iret rfl rfl rfl (absurd (g0.symm.trans (show r_sg h _ k d _ q = (-1 : Int32) from by simp only [r_sg, sg_told, if_neg c_7, if_neg c_49, if_neg c_56, if_neg c_61, if_pos c_74, if_true, if_neg (show ¬ (1 : Int32) = 0 by decide)])) (by decide))
        · refine ev_iload rfl rfl rfl ?_
          refine ev_iconst (v := 0) rfl rfl (by decide) ?_
          refine ev_bipush (v := 8) rfl rfl (by decide) ?_
          refine ev_S3D rfl rfl lk_X9_75 st_X9_isWithin rfl rfl (c_isWithin _ _ _ _ _) ?_
          refine ev_if_ne rfl rfl (fun c_85 => ?_) (fun c_85 => ?_)
          · have pt : B t 0 5 := z_has_B5 hB c_49
            obtain ⟨n, hn, rfl, en⟩ := B.nat6 pt
            obtain ⟨R, hR, rfl, eR⟩ := rst_nat c_85
            refine ev_aload_n rfl rfl rfl ?_
            refine ev_getR rfl rfl fl_X9_43 rfl rfl rfl rfl ?_
            refine ev_iload_n rfl rfl rfl ?_
            refine ev_iload_n rfl rfl rfl ?_
            refine ev_aload_n rfl rfl rfl ?_
            refine ev_getR rfl rfl fl_X9_22 rfl rfl rfl rfl ?_
            refine ev_getI rfl rfl fl_X9_158 rfl rfl rfl ?_
            refine ev_V3D rfl rfl lk_X9_230 vt_X7_goes rfl rfl rfl rfl rfl (EvD.to (c_goes L false h n hn _ (B.nI (u := 24) (hB 36 n)).2 (B.nI (u := 24) (hB 36 n)).1 k (h 4 7)) (show _ = gsC h (nI n) k from by unfold gsC; rw [en]) rfl) ?_
            refine ev_if_ne rfl rfl (fun c_106 => ?_) (fun c_106 => ?_)
            · rw [show r_cs h (nI n) k d (nI R) q = a_set h (nI n) k d (nI R) q from if_pos g0]
              exact x_set112F L h hB hz95 hs15 hP hsv n hn en k d q R hR eR g0
            · refine ev_bipush (v := (-2)) rfl rfl (by decide) ?_
              exact ev_iret rfl rfl rfl (absurd (g0.symm.trans (show r_sg h _ k d _ q = (-2 : Int32) from by simp only [r_sg, sg_told, if_neg c_7, if_neg c_49, if_neg c_56, if_neg c_61, if_neg c_74, if_neg c_85, if_pos c_106, if_true, if_neg (show ¬ (1 : Int32) = 0 by decide)])) (by decide))
          · refine ev_iconst (v := (-1)) rfl rfl (by decide) ?_
            exact ev_iret rfl rfl rfl (absurd (g0.symm.trans (show r_sg h _ k d _ q = (-1 : Int32) from by simp only [r_sg, sg_told, if_neg c_7, if_neg c_49, if_neg c_56, if_neg c_61, if_neg c_74, if_pos c_85, if_true, if_neg (show ¬ (1 : Int32) = 0 by decide)])) (by decide))
  · refine ev_aload_n rfl rfl rfl ?_
    refine ev_iload_n rfl rfl rfl ?_
    refine ev_iload rfl rfl rfl ?_
    refine ev_bipush (v := 10) rfl rfl (by decide) ?_
    refine ev_V3D rfl rfl lk_X9_210 vt_X9_isBeat rfl rfl rfl rfl rfl (c_isBeatE L false h hB _ _ _) ?_
    refine ev_if_ne rfl rfl (fun c_19 => ?_) (fun c_19 => ?_)
    · refine ev_iconst (v := 1) rfl rfl (by decide) ?_
      refine ev_goto rfl rfl ?_
      refine ev_istore rfl rfl rfl rfl ?_
      dsimp only [List.set]
      refine ev_aload_n rfl rfl rfl ?_
      refine ev_getR rfl rfl fl_X9_43 rfl rfl rfl rfl ?_
      refine ev_iload_n rfl rfl rfl ?_
      refine ev_V1D rfl rfl lk_X9_195 vt_X7_has rfl rfl rfl rfl rfl (c_X7_hasE L false h _) ?_
      refine ev_if_eq rfl rfl (fun c_49 => ?_) (fun c_49 => ?_)
      · refine ev_iconst (v := (-1)) rfl rfl (by decide) ?_
        exact ev_iret rfl rfl rfl (absurd (g0.symm.trans (show r_sg h _ k d _ q = (-1 : Int32) from by simp only [r_sg, sg_told, if_pos c_7, if_neg c_19, if_pos c_49, if_true, if_neg (show ¬ (1 : Int32) = 0 by decide)])) (by decide))
      · refine ev_iload_n rfl rfl rfl ?_
        refine ev_S1D rfl rfl lk_X9_227 st_X9_isKey rfl rfl (c_isKey _ _ _) ?_
        refine ev_if_eq rfl rfl (fun c_56 => ?_) (fun c_56 => ?_)
        · refine ev_iconst (v := (-1)) rfl rfl (by decide) ?_
          exact ev_iret rfl rfl rfl (absurd (g0.symm.trans (show r_sg h _ k d _ q = (-1 : Int32) from by simp only [r_sg, sg_told, if_pos c_7, if_neg c_19, if_neg c_49, if_pos c_56, if_true, if_neg (show ¬ (1 : Int32) = 0 by decide)])) (by decide))
        · refine ev_iload rfl rfl rfl ?_
          refine ev_if_ne rfl rfl (fun c_61 => ?_) (fun z_ => absurd z_ (by decide))
          refine ev_iload_n rfl rfl rfl ?_
          refine ev_iconst (v := 0) rfl rfl (by decide) ?_
          refine ev_sipush (v := 400) rfl rfl (by decide) ?_
          refine ev_S3D rfl rfl lk_X9_75 st_X9_isWithin rfl rfl (c_isWithin _ _ _ _ _) ?_
          refine ev_if_eq rfl rfl (fun c_74 => ?_) (fun c_74 => ?_)
          · refine ev_iconst (v := (-1)) rfl rfl (by decide) ?_
            exact ev_iret rfl rfl rfl (absurd (g0.symm.trans (show r_sg h _ k d _ q = (-1 : Int32) from by simp only [r_sg, sg_told, if_pos c_7, if_neg c_19, if_neg c_49, if_neg c_56, if_neg c_61, if_pos c_74, if_true, if_neg (show ¬ (1 : Int32) = 0 by decide)])) (by decide))
          · refine ev_iload rfl rfl rfl ?_
            refine ev_iconst (v := 0) rfl rfl (by decide) ?_
            refine ev_bipush (v := 8) rfl rfl (by decide) ?_
            refine ev_S3D rfl rfl lk_X9_75 st_X9_isWithin rfl rfl (c_isWithin _ _ _ _ _) ?_
            refine ev_if_ne rfl rfl (fun c_85 => ?_) (fun c_85 => ?_)
            · have pt : B t 0 5 := z_has_B5 hB c_49
              obtain ⟨n, hn, rfl, en⟩ := B.nat6 pt
              obtain ⟨R, hR, rfl, eR⟩ := rst_nat c_85
              refine ev_aload_n rfl rfl rfl ?_
              refine ev_getR rfl rfl fl_X9_43 rfl rfl rfl rfl ?_
              refine ev_iload_n rfl rfl rfl ?_
              refine ev_iload_n rfl rfl rfl ?_
              refine ev_aload_n rfl rfl rfl ?_
              refine ev_getR rfl rfl fl_X9_22 rfl rfl rfl rfl ?_
              refine ev_getI rfl rfl fl_X9_158 rfl rfl rfl ?_
              refine ev_V3D rfl rfl lk_X9_230 vt_X7_goes rfl rfl rfl rfl rfl (EvD.to (c_goes L false h n hn _ (B.nI (u := 24) (hB 36 n)).2 (B.nI (u := 24) (hB 36 n)).1 k (h 4 7)) (show _ = gsC h (nI n) k from by unfold gsC; rw [en]) rfl) ?_
              refine ev_if_ne rfl rfl (fun c_106 => ?_) (fun c_106 => ?_)
              · rw [show r_cs h (nI n) k d (nI R) q = a_set h (nI n) k d (nI R) q from if_pos g0]
                exact x_set112F L h hB hz95 hs15 hP hsv n hn en k d q R hR eR g0
              · refine ev_bipush (v := (-2)) rfl rfl (by decide) ?_
                exact ev_iret rfl rfl rfl (absurd (g0.symm.trans (show r_sg h _ k d _ q = (-2 : Int32) from by simp only [r_sg, sg_told, if_pos c_7, if_neg c_19, if_neg c_49, if_neg c_56, if_neg c_61, if_neg c_74, if_neg c_85, if_pos c_106, if_true, if_neg (show ¬ (1 : Int32) = 0 by decide)])) (by decide))
            · refine ev_iconst (v := (-1)) rfl rfl (by decide) ?_
              exact ev_iret rfl rfl rfl (absurd (g0.symm.trans (show r_sg h _ k d _ q = (-1 : Int32) from by simp only [r_sg, sg_told, if_pos c_7, if_neg c_19, if_neg c_49, if_neg c_56, if_neg c_61, if_neg c_74, if_pos c_85, if_true, if_neg (show ¬ (1 : Int32) = 0 by decide)])) (by decide))
    · refine ev_aload_n rfl rfl rfl ?_
      refine ev_iload_n rfl rfl rfl ?_
      refine ev_iload rfl rfl rfl ?_
      refine ev_bipush (v := 40) rfl rfl (by decide) ?_
      refine ev_V3D rfl rfl lk_X9_210 vt_X9_isBeat rfl rfl rfl rfl rfl (c_isBeatE L false h hB _ _ _) ?_
      refine ev_if_eq rfl rfl (fun c_31 => ?_) (fun c_31 => ?_)
      · refine ev_iconst (v := 0) rfl rfl (by decide) ?_
        refine ev_istore rfl rfl rfl rfl ?_
        dsimp only [List.set]
        refine ev_aload_n rfl rfl rfl ?_
        refine ev_getR rfl rfl fl_X9_43 rfl rfl rfl rfl ?_
        refine ev_iload_n rfl rfl rfl ?_
        refine ev_V1D rfl rfl lk_X9_195 vt_X7_has rfl rfl rfl rfl rfl (c_X7_hasE L false h _) ?_
        refine ev_if_eq rfl rfl (fun c_49 => ?_) (fun c_49 => ?_)
        · refine ev_iconst (v := (-1)) rfl rfl (by decide) ?_
          exact ev_iret rfl rfl rfl (absurd (g0.symm.trans (show r_sg h _ k d _ q = (-1 : Int32) from by simp only [r_sg, sg_told, if_pos c_7, if_pos c_19, if_pos c_31, if_pos c_49, if_true, if_neg (show ¬ (1 : Int32) = 0 by decide)])) (by decide))
        · refine ev_iload_n rfl rfl rfl ?_
          refine ev_S1D rfl rfl lk_X9_227 st_X9_isKey rfl rfl (c_isKey _ _ _) ?_
          refine ev_if_eq rfl rfl (fun c_56 => ?_) (fun c_56 => ?_)
          · refine ev_iconst (v := (-1)) rfl rfl (by decide) ?_
            exact ev_iret rfl rfl rfl (absurd (g0.symm.trans (show r_sg h _ k d _ q = (-1 : Int32) from by simp only [r_sg, sg_told, if_pos c_7, if_pos c_19, if_pos c_31, if_neg c_49, if_pos c_56, if_true, if_neg (show ¬ (1 : Int32) = 0 by decide)])) (by decide))
          · refine ev_iload rfl rfl rfl ?_
            refine ev_if_ne rfl rfl (fun z_ => absurd (by decide) z_) (fun c_61 => ?_)
            refine ev_iconst (v := (-1)) rfl rfl (by decide) ?_
            exact ev_iret rfl rfl rfl (absurd (g0.symm.trans (show r_sg h _ k d _ q = (-1 : Int32) from by simp only [r_sg, sg_told, if_pos c_7, if_pos c_19, if_pos c_31, if_neg c_49, if_neg c_56, if_pos c_61, if_true, if_neg (show ¬ (1 : Int32) = 0 by decide)])) (by decide))
      · refine ev_iconst (v := 1) rfl rfl (by decide) ?_
        refine ev_goto rfl rfl ?_
        refine ev_istore rfl rfl rfl rfl ?_
        dsimp only [List.set]
        refine ev_aload_n rfl rfl rfl ?_
        refine ev_getR rfl rfl fl_X9_43 rfl rfl rfl rfl ?_
        refine ev_iload_n rfl rfl rfl ?_
        refine ev_V1D rfl rfl lk_X9_195 vt_X7_has rfl rfl rfl rfl rfl (c_X7_hasE L false h _) ?_
        refine ev_if_eq rfl rfl (fun c_49 => ?_) (fun c_49 => ?_)
        · refine ev_iconst (v := (-1)) rfl rfl (by decide) ?_
          exact ev_iret rfl rfl rfl (absurd (g0.symm.trans (show r_sg h _ k d _ q = (-1 : Int32) from by simp only [r_sg, sg_told, if_pos c_7, if_pos c_19, if_neg c_31, if_pos c_49, if_true, if_neg (show ¬ (1 : Int32) = 0 by decide)])) (by decide))
        · refine ev_iload_n rfl rfl rfl ?_
          refine ev_S1D rfl rfl lk_X9_227 st_X9_isKey rfl rfl (c_isKey _ _ _) ?_
          refine ev_if_eq rfl rfl (fun c_56 => ?_) (fun c_56 => ?_)
          · refine ev_iconst (v := (-1)) rfl rfl (by decide) ?_
            exact ev_iret rfl rfl rfl (absurd (g0.symm.trans (show r_sg h _ k d _ q = (-1 : Int32) from by simp only [r_sg, sg_told, if_pos c_7, if_pos c_19, if_neg c_31, if_neg c_49, if_pos c_56, if_true, if_neg (show ¬ (1 : Int32) = 0 by decide)])) (by decide))
          · refine ev_iload rfl rfl rfl ?_
            refine ev_if_ne rfl rfl (fun c_61 => ?_) (fun z_ => absurd z_ (by decide))
            refine ev_iload_n rfl rfl rfl ?_
            refine ev_iconst (v := 0) rfl rfl (by decide) ?_
            refine ev_sipush (v := 400) rfl rfl (by decide) ?_
            refine ev_S3D rfl rfl lk_X9_75 st_X9_isWithin rfl rfl (c_isWithin _ _ _ _ _) ?_
            refine ev_if_eq rfl rfl (fun c_74 => ?_) (fun c_74 => ?_)
            · refine ev_iconst (v := (-1)) rfl rfl (by decide) ?_
              exact ev_iret rfl rfl rfl (absurd (g0.symm.trans (show r_sg h _ k d _ q = (-1 : Int32) from by simp only [r_sg, sg_told, if_pos c_7, if_pos c_19, if_neg c_31, if_neg c_49, if_neg c_56, if_neg c_61, if_pos c_74, if_true, if_neg (show ¬ (1 : Int32) = 0 by decide)])) (by decide))
            · refine ev_iload rfl rfl rfl ?_
              refine ev_iconst (v := 0) rfl rfl (by decide) ?_
              refine ev_bipush (v := 8) rfl rfl (by decide) ?_
              refine ev_S3D rfl rfl lk_X9_75 st_X9_isWithin rfl rfl (c_isWithin _ _ _ _ _) ?_
              refine ev_if_ne rfl rfl (fun c_85 => ?_) (fun c_85 => ?_)
              · have pt : B t 0 5 := z_has_B5 hB c_49
                obtain ⟨n, hn, rfl, en⟩ := B.nat6 pt
                obtain ⟨R, hR, rfl, eR⟩ := rst_nat c_85
                refine ev_aload_n rfl rfl rfl ?_
                refine ev_getR rfl rfl fl_X9_43 rfl rfl rfl rfl ?_
                refine ev_iload_n rfl rfl rfl ?_
                refine ev_iload_n rfl rfl rfl ?_
                refine ev_aload_n rfl rfl rfl ?_
                refine ev_getR rfl rfl fl_X9_22 rfl rfl rfl rfl ?_
                refine ev_getI rfl rfl fl_X9_158 rfl rfl rfl ?_
                refine ev_V3D rfl rfl lk_X9_230 vt_X7_goes rfl rfl rfl rfl rfl (EvD.to (c_goes L false h n hn _ (B.nI (u := 24) (hB 36 n)).2 (B.nI (u := 24) (hB 36 n)).1 k (h 4 7)) (show _ = gsC h (nI n) k from by unfold gsC; rw [en]) rfl) ?_
                refine ev_if_ne rfl rfl (fun c_106 => ?_) (fun c_106 => ?_)
                · rw [show r_cs h (nI n) k d (nI R) q = a_set h (nI n) k d (nI R) q from if_pos g0]
                  exact x_set112F L h hB hz95 hs15 hP hsv n hn en k d q R hR eR g0
                · refine ev_bipush (v := (-2)) rfl rfl (by decide) ?_
                  exact ev_iret rfl rfl rfl (absurd (g0.symm.trans (show r_sg h _ k d _ q = (-2 : Int32) from by simp only [r_sg, sg_told, if_pos c_7, if_pos c_19, if_neg c_31, if_neg c_49, if_neg c_56, if_neg c_61, if_neg c_74, if_neg c_85, if_pos c_106, if_true, if_neg (show ¬ (1 : Int32) = 0 by decide)])) (by decide))
              · refine ev_iconst (v := (-1)) rfl rfl (by decide) ?_
                exact ev_iret rfl rfl rfl (absurd (g0.symm.trans (show r_sg h _ k d _ q = (-1 : Int32) from by simp only [r_sg, sg_told, if_pos c_7, if_pos c_19, if_neg c_31, if_neg c_49, if_neg c_56, if_neg c_61, if_neg c_74, if_pos c_85, if_true, if_neg (show ¬ (1 : Int32) = 0 by decide)])) (by decide))
