theorem kk_ne {h : Hp} {n : Nat} (hn : n < 10) {i j : Nat} (h1 : i ≠ 11) (h2 : i < 13 ∨ 23 ≤ i) : k_keep h n i j = h i j := k_keep_ne (by omega) h1
theorem RWs.cg {h h2 : Hp} (hW : RWs h) (e : ∀ i j, 4 ≤ i → i ≤ 10 → h2 i j = h i j) (e5 : h2 63 5 = h 63 5) (e6 : ∀ i j, 64 ≤ i → i ≤ 70 → h2 i j = h i j) : RWs h2 := by
  obtain ⟨w1, w2, w3⟩ := hW
  have ew : nW h2 = nW h := by unfold nW; rw [e 4 7 (by decide) (by decide)]
  have f9 : h2 9 = h 9 := funext (fun j => e 9 j (by decide) (by decide))
  have f10 : h2 10 = h 10 := funext (fun j => e 10 j (by decide) (by decide))
  refine ⟨by rw [e 4 7 (by decide) (by decide), e5]; exact w1, fun w hw => ?_, by rw [ew, f9, f10, e 4 6 (by decide) (by decide)]; exact w3⟩
  rw [ew] at hw
  have z := w2 w hw
  unfold RW1
  rw [e 5 w (by decide) (by decide), e 6 w (by decide) (by decide), e 7 w (by decide) (by decide), e 8 w (by decide) (by decide), e 9 w (by decide) (by decide), e 10 w (by decide) (by decide), e 4 6 (by decide) (by decide), e6 64 w (by decide) (by decide), e6 65 w (by decide) (by decide), e6 66 w (by decide) (by decide), e6 67 w (by decide) (by decide), e6 68 w (by decide) (by decide), e6 69 w (by decide) (by decide), e6 70 w (by decide) (by decide)]
  exact z
theorem nX_lt {h : Hp} (hB : Bx h) : nX h < 10 := by have := (B.nI (u := 9) (hB 11 1)).2; unfold nX; omega
theorem nX_eq {h : Hp} (hB : Bx h) : h 11 1 = nI (nX h) := (B.nI (u := 9) (hB 11 1)).1
theorem z_cap_min2 (x : Int32) : z_cap x = z_min 9999 x := (z_cap_min x).symm
theorem z_mn_le (x v : Int32) : (if x ≤ v then x else v) = z_min x v := by
  unfold z_min
  by_cases q : v < x
  · rw [if_pos q, if_neg (Int32.not_le.mpr q)]
  · rw [if_neg q, if_pos (Int32.not_lt.mp q)]

theorem z_min_B2 {x v : Int32} (hx : B x 0 200) (hv : B v 0 200) : B (z_min x v) 0 200 := by
  unfold z_min
  split
  · exact hv
  · exact hx

theorem w_fireZ (L : Nat) (b : Bool) (h : Hp) (hB : Bx h) (v : Int32) : EvI mi_X9_fire [.ref 1, .int v] (G0 L b) h (fun r z => r = r_fire h v ∧ z = k_fire h (nX h) v) [(11, 1), (11, 2), (11, 3), (13, 999), (14, 999), (15, 999), (16, 999), (17, 999), (18, 999), (19, 999), (20, 999), (21, 999), (22, 999), (2, 2)] := by
  refine (x_fire L b h (nX h) (nX_lt hB) (nX_eq hB) v).ix ?_
  unfold k_fire
  split
  · exact JW.refl hB
  · rename_i q
    have J0 : JW [(11, 1), (11, 2), (11, 3), (13, 999), (14, 999), (15, 999), (16, 999), (17, 999), (18, 999), (19, 999), (20, 999), (21, 999), (22, 999), (2, 2)] h (k_keep h (nX h)) := (jw_keep hB (nX_lt hB)).widen rfl
    exact J0.set rfl (B.any _)
theorem w_mfireZ (L : Nat) (b : Bool) (h : Hp) (hB : Bx h) (v : Int32) : EvI mi_X10_fire [.ref 63, .int v] (G0 L b) h (fun r z => r = rmFi h v ∧ z = kmFi h v) [(63, 13), (71, 999), (63, 2)] := by
  refine (m_xfire L b h hB v).ix ?_
  unfold kmFi
  split
  · exact JW.refl hB
  · rename_i q
    have J0 : JW [(63, 13), (71, 999), (63, 2)] h (k_mkp h) := (jw_mkp hB).widen rfl
    exact J0.set rfl (B.any _)
theorem rel_fire {h h1 : Hp} (hB : Bx h) (hB1 : Bx h1) (hE : RE h) (v : Int32) (e1 : h1 = k_fire h (nX h) v) : r_fire h v = rmFi h1 v ∧ RE (kmFi h1 v) := by
  obtain ⟨⟨b0, b1, b2, b3, b4⟩, hW, hA⟩ := id hE
  have ln := nX_lt hB
  by_cases q : z_wi v 0 9 = 0
  · have e : h1 = h := by rw [e1]; unfold k_fire; rw [if_pos q]
    have q2 : z_wi v 0 9 = 0 := by exact q
    unfold r_fire rmFi kmFi
    rw [e, if_pos q, if_pos q2, if_pos q2]
    exact ⟨rfl, hE⟩
  · have e : h1 = ev_set (k_keep h (nX h)) 2 2 v := by rw [e1]; unfold k_fire; rw [if_neg q]
    have q2 : ¬ z_wi v 0 9 = 0 := by
      skip
      skip
      exact q
    unfold r_fire rmFi kmFi
    rw [if_neg q, if_neg q2, if_neg q2]
    have c63 : ∀ i j, 63 ≤ i → h1 i j = h i j := fun i j hi => by rw [e]; simp (disch := omega) only [ev_rd1, ev_rd2, ev_rd3, k_mkp_63, k_mkp_o, kk_ne ln]
    have c4 : ∀ i j, 4 ≤ i → i ≤ 10 → h1 i j = h i j := fun i j g1 g2 => by rw [e]; simp (disch := omega) only [ev_rd1, ev_rd2, ev_rd3, k_mkp_63, k_mkp_o, kk_ne ln]
    refine ⟨?_, act_re hB hB1 hE (fun j => by rw [e]; simp (disch := omega) only [ev_rd1, ev_rd2, ev_rd3, k_mkp_63, k_mkp_o, kk_ne ln]) (fun i hi j => by rw [e]; simp (disch := omega) only [ev_rd1, ev_rd2, ev_rd3, k_mkp_63, k_mkp_o, kk_ne ln]) c63 (fun j => by simp (disch := omega) only [ev_rd1, ev_rd2, ev_rd3, k_mkp_63, k_mkp_o, kk_ne ln]) (fun i hi j => by simp (disch := omega) only [ev_rd1, ev_rd2, ev_rd3, k_mkp_63, k_mkp_o, kk_ne ln]) (fun j => by simp (disch := omega) only [ev_rd1, ev_rd2, ev_rd3, k_mkp_63, k_mkp_o, kk_ne ln]) (by simp (disch := omega) only [ev_rd1, ev_rd2, ev_rd3, k_mkp_63, k_mkp_o, kk_ne ln]) ?_ ?_ (RWs.cg hW (fun i j g1 g2 => by simp (disch := omega) only [ev_rd1, ev_rd2, ev_rd3, k_mkp_63, k_mkp_o, kk_ne ln]; exact c4 i j g1 g2) (by simp (disch := omega) only [ev_rd1, ev_rd2, ev_rd3, k_mkp_63, k_mkp_o, kk_ne ln]; exact c63 63 5 (by decide)) (fun i j g1 g2 => by simp (disch := omega) only [ev_rd1, ev_rd2, ev_rd3, k_mkp_63, k_mkp_o, kk_ne ln]; exact c63 i j (by omega)))⟩
    · rw [c63 63 2 (by decide)]; exact b2
    · unfold nW
      simp (disch := omega) only [ev_rd1, ev_rd2, ev_rd3, k_mkp_63, k_mkp_o, kk_ne ln]
      rw [c4 4 7 (by decide) (by decide)]
    · refine ⟨?_, ?_, ?_, ?_, ?_⟩
      · simp (disch := omega) only [ev_rd1, ev_rd2, ev_rd3, k_mkp_63, k_mkp_o, kk_ne ln]; rw [c63 63 0 (by decide), e]; simp (disch := omega) only [ev_rd1, ev_rd2, ev_rd3, k_mkp_63, k_mkp_o, kk_ne ln]; exact b0
      · simp (disch := omega) only [ev_rd1, ev_rd2, ev_rd3, k_mkp_63, k_mkp_o, kk_ne ln]; rw [c63 63 1 (by decide), e]; simp (disch := omega) only [ev_rd1, ev_rd2, ev_rd3, k_mkp_63, k_mkp_o, kk_ne ln]; exact b1
      · simp (disch := omega) only [ev_rd1, ev_rd2, ev_rd3, k_mkp_63, k_mkp_o, kk_ne ln]; rw [e]; simp (disch := omega) only [ev_rd1, ev_rd2, ev_rd3, k_mkp_63, k_mkp_o, kk_ne ln]
      · simp (disch := omega) only [ev_rd1, ev_rd2, ev_rd3, k_mkp_63, k_mkp_o, kk_ne ln]; rw [c63 63 3 (by decide), e]; simp (disch := omega) only [ev_rd1, ev_rd2, ev_rd3, k_mkp_63, k_mkp_o, kk_ne ln]; exact b3
      · simp (disch := omega) only [ev_rd1, ev_rd2, ev_rd3, k_mkp_63, k_mkp_o, kk_ne ln]; rw [c63 63 4 (by decide), e]; simp (disch := omega) only [ev_rd1, ev_rd2, ev_rd3, k_mkp_63, k_mkp_o, kk_ne ln]; exact b4

theorem w_waterZ (L : Nat) (b : Bool) (h : Hp) (hB : Bx h) (v : Int32) : EvI mi_X9_water [.ref 1, .int v] (G0 L b) h (fun r z => r = r_water h v ∧ z = k_water h (nX h) v) [(11, 1), (11, 2), (11, 3), (13, 999), (14, 999), (15, 999), (16, 999), (17, 999), (18, 999), (19, 999), (20, 999), (21, 999), (22, 999), (2, 1)] := by
  refine (x_water L b h (nX h) (nX_lt hB) (nX_eq hB) v).ix ?_
  unfold k_water
  split
  · exact JW.refl hB
  · rename_i q
    have J0 : JW [(11, 1), (11, 2), (11, 3), (13, 999), (14, 999), (15, 999), (16, 999), (17, 999), (18, 999), (19, 999), (20, 999), (21, 999), (22, 999), (2, 1)] h (k_keep h (nX h)) := (jw_keep hB (nX_lt hB)).widen rfl
    exact J0.set rfl (B.any _)
theorem w_mwaterZ (L : Nat) (b : Bool) (h : Hp) (hB : Bx h) (v : Int32) : EvI mi_X10_water [.ref 63, .int v] (G0 L b) h (fun r z => r = rmWa h v ∧ z = kmWa h v) [(63, 13), (71, 999), (63, 1)] := by
  refine (m_xwater L b h hB v).ix ?_
  unfold kmWa
  split
  · exact JW.refl hB
  · rename_i q
    have J0 : JW [(63, 13), (71, 999), (63, 1)] h (k_mkp h) := (jw_mkp hB).widen rfl
    exact J0.set rfl (B.any _)
theorem rel_water {h h1 : Hp} (hB : Bx h) (hB1 : Bx h1) (hE : RE h) (v : Int32) (e1 : h1 = k_water h (nX h) v) : r_water h v = rmWa h1 v ∧ RE (kmWa h1 v) := by
  obtain ⟨⟨b0, b1, b2, b3, b4⟩, hW, hA⟩ := id hE
  have ln := nX_lt hB
  by_cases q : z_wi v 1 9999 = 0
  · have e : h1 = h := by rw [e1]; unfold k_water; rw [if_pos q]
    have q2 : z_wi v 1 9999 = 0 := by exact q
    unfold r_water rmWa kmWa
    rw [e, if_pos q, if_pos q2, if_pos q2]
    exact ⟨rfl, hE⟩
  · have e : h1 = ev_set (k_keep h (nX h)) 2 1 (z_min 9999 (h 2 1 + v)) := by rw [e1]; unfold k_water; rw [if_neg q]
    have q2 : ¬ z_wi v 1 9999 = 0 := by
      skip
      skip
      exact q
    unfold r_water rmWa kmWa
    rw [if_neg q, if_neg q2, if_neg q2]
    have c63 : ∀ i j, 63 ≤ i → h1 i j = h i j := fun i j hi => by rw [e]; simp (disch := omega) only [ev_rd1, ev_rd2, ev_rd3, k_mkp_63, k_mkp_o, kk_ne ln]
    have c4 : ∀ i j, 4 ≤ i → i ≤ 10 → h1 i j = h i j := fun i j g1 g2 => by rw [e]; simp (disch := omega) only [ev_rd1, ev_rd2, ev_rd3, k_mkp_63, k_mkp_o, kk_ne ln]
    refine ⟨?_, act_re hB hB1 hE (fun j => by rw [e]; simp (disch := omega) only [ev_rd1, ev_rd2, ev_rd3, k_mkp_63, k_mkp_o, kk_ne ln]) (fun i hi j => by rw [e]; simp (disch := omega) only [ev_rd1, ev_rd2, ev_rd3, k_mkp_63, k_mkp_o, kk_ne ln]) c63 (fun j => by simp (disch := omega) only [ev_rd1, ev_rd2, ev_rd3, k_mkp_63, k_mkp_o, kk_ne ln]) (fun i hi j => by simp (disch := omega) only [ev_rd1, ev_rd2, ev_rd3, k_mkp_63, k_mkp_o, kk_ne ln]) (fun j => by simp (disch := omega) only [ev_rd1, ev_rd2, ev_rd3, k_mkp_63, k_mkp_o, kk_ne ln]) (by simp (disch := omega) only [ev_rd1, ev_rd2, ev_rd3, k_mkp_63, k_mkp_o, kk_ne ln]) ?_ ?_ (RWs.cg hW (fun i j g1 g2 => by simp (disch := omega) only [ev_rd1, ev_rd2, ev_rd3, k_mkp_63, k_mkp_o, kk_ne ln]; exact c4 i j g1 g2) (by simp (disch := omega) only [ev_rd1, ev_rd2, ev_rd3, k_mkp_63, k_mkp_o, kk_ne ln]; exact c63 63 5 (by decide)) (fun i j g1 g2 => by simp (disch := omega) only [ev_rd1, ev_rd2, ev_rd3, k_mkp_63, k_mkp_o, kk_ne ln]; exact c63 i j (by omega)))⟩
    · rw [c63 63 1 (by decide), z_cap_min2, b1]
    · unfold nW
      simp (disch := omega) only [ev_rd1, ev_rd2, ev_rd3, k_mkp_63, k_mkp_o, kk_ne ln]
      rw [c4 4 7 (by decide) (by decide)]
    · refine ⟨?_, ?_, ?_, ?_, ?_⟩
      · simp (disch := omega) only [ev_rd1, ev_rd2, ev_rd3, k_mkp_63, k_mkp_o, kk_ne ln]; rw [c63 63 0 (by decide), e]; simp (disch := omega) only [ev_rd1, ev_rd2, ev_rd3, k_mkp_63, k_mkp_o, kk_ne ln]; exact b0
      · simp (disch := omega) only [ev_rd1, ev_rd2, ev_rd3, k_mkp_63, k_mkp_o, kk_ne ln]; rw [c63 63 1 (by decide), e]; simp (disch := omega) only [ev_rd1, ev_rd2, ev_rd3, k_mkp_63, k_mkp_o, kk_ne ln]; rw [z_cap_min2, b1]
      · simp (disch := omega) only [ev_rd1, ev_rd2, ev_rd3, k_mkp_63, k_mkp_o, kk_ne ln]; rw [c63 63 2 (by decide), e]; simp (disch := omega) only [ev_rd1, ev_rd2, ev_rd3, k_mkp_63, k_mkp_o, kk_ne ln]; exact b2
      · simp (disch := omega) only [ev_rd1, ev_rd2, ev_rd3, k_mkp_63, k_mkp_o, kk_ne ln]; rw [c63 63 3 (by decide), e]; simp (disch := omega) only [ev_rd1, ev_rd2, ev_rd3, k_mkp_63, k_mkp_o, kk_ne ln]; exact b3
      · simp (disch := omega) only [ev_rd1, ev_rd2, ev_rd3, k_mkp_63, k_mkp_o, kk_ne ln]; rw [c63 63 4 (by decide), e]; simp (disch := omega) only [ev_rd1, ev_rd2, ev_rd3, k_mkp_63, k_mkp_o, kk_ne ln]; exact b4

theorem w_valveZ (L : Nat) (b : Bool) (h : Hp) (hB : Bx h) (v : Int32) : EvI mi_X9_valve [.ref 1, .int v] (G0 L b) h (fun r z => r = r_valve h v ∧ z = k_valve h (nX h) v) [(11, 1), (11, 2), (11, 3), (13, 999), (14, 999), (15, 999), (16, 999), (17, 999), (18, 999), (19, 999), (20, 999), (21, 999), (22, 999), (2, 3), (2, 0)] := by
  refine (x_valve L b h (nX h) (nX_lt hB) (nX_eq hB) v).ix ?_
  unfold k_valve
  split
  · exact JW.refl hB
  · rename_i q
    have J0 : JW [(11, 1), (11, 2), (11, 3), (13, 999), (14, 999), (15, 999), (16, 999), (17, 999), (18, 999), (19, 999), (20, 999), (21, 999), (22, 999), (2, 3), (2, 0)] h (k_keep h (nX h)) := (jw_keep hB (nX_lt hB)).widen rfl
    have bv : B v 0 200 := (z_wi_B (by decide : B 50 50 50) (by decide : B 200 200 200) q).mono (by decide) (by decide)
    exact (J0.set rfl bv).set rfl (z_min_B2 (hB 2 0) bv)
theorem w_mvalveZ (L : Nat) (b : Bool) (h : Hp) (hB : Bx h) (v : Int32) : EvI mi_X10_valve [.ref 63, .int v] (G0 L b) h (fun r z => r = rmVa h v ∧ z = kmVa h v) [(63, 13), (71, 999), (63, 3), (63, 0)] := by
  refine (m_xvalve L b h hB v).ix ?_
  unfold kmVa
  split
  · exact JW.refl hB
  · rename_i q
    have J0 : JW [(63, 13), (71, 999), (63, 3), (63, 0)] h (k_mkp h) := (jw_mkp hB).widen rfl
    have bv : B v 0 200 := (z_wi_B (by decide : B 50 50 50) (by decide : B 200 200 200) q).mono (by decide) (by decide)
    exact (J0.set rfl bv).set rfl (by rw [z_mn_le]; exact z_min_B2 (hB 63 0) bv)
theorem rel_valve {h h1 : Hp} (hB : Bx h) (hB1 : Bx h1) (hE : RE h) (v : Int32) (e1 : h1 = k_valve h (nX h) v) : r_valve h v = rmVa h1 v ∧ RE (kmVa h1 v) := by
  obtain ⟨⟨b0, b1, b2, b3, b4⟩, hW, hA⟩ := id hE
  have ln := nX_lt hB
  by_cases q : z_wi v 50 200 = 0
  · have e : h1 = h := by rw [e1]; unfold k_valve; rw [if_pos q]
    have q2 : z_wi v 50 200 = 0 := by exact q
    unfold r_valve rmVa kmVa
    rw [e, if_pos q, if_pos q2, if_pos q2]
    exact ⟨rfl, hE⟩
  · have e : h1 = ev_set (ev_set (k_keep h (nX h)) 2 3 v) 2 0 (z_min (h 2 0) v) := by rw [e1]; unfold k_valve; rw [if_neg q]
    have q2 : ¬ z_wi v 50 200 = 0 := by
      skip
      skip
      exact q
    unfold r_valve rmVa kmVa
    rw [if_neg q, if_neg q2, if_neg q2]
    have c63 : ∀ i j, 63 ≤ i → h1 i j = h i j := fun i j hi => by rw [e]; simp (disch := omega) only [ev_rd1, ev_rd2, ev_rd3, k_mkp_63, k_mkp_o, kk_ne ln]
    have c4 : ∀ i j, 4 ≤ i → i ≤ 10 → h1 i j = h i j := fun i j g1 g2 => by rw [e]; simp (disch := omega) only [ev_rd1, ev_rd2, ev_rd3, k_mkp_63, k_mkp_o, kk_ne ln]
    refine ⟨?_, act_re hB hB1 hE (fun j => by rw [e]; simp (disch := omega) only [ev_rd1, ev_rd2, ev_rd3, k_mkp_63, k_mkp_o, kk_ne ln]) (fun i hi j => by rw [e]; simp (disch := omega) only [ev_rd1, ev_rd2, ev_rd3, k_mkp_63, k_mkp_o, kk_ne ln]) c63 (fun j => by simp (disch := omega) only [ev_rd1, ev_rd2, ev_rd3, k_mkp_63, k_mkp_o, kk_ne ln]) (fun i hi j => by simp (disch := omega) only [ev_rd1, ev_rd2, ev_rd3, k_mkp_63, k_mkp_o, kk_ne ln]) (fun j => by simp (disch := omega) only [ev_rd1, ev_rd2, ev_rd3, k_mkp_63, k_mkp_o, kk_ne ln]) (by simp (disch := omega) only [ev_rd1, ev_rd2, ev_rd3, k_mkp_63, k_mkp_o, kk_ne ln]) ?_ ?_ (RWs.cg hW (fun i j g1 g2 => by simp (disch := omega) only [ev_rd1, ev_rd2, ev_rd3, k_mkp_63, k_mkp_o, kk_ne ln]; exact c4 i j g1 g2) (by simp (disch := omega) only [ev_rd1, ev_rd2, ev_rd3, k_mkp_63, k_mkp_o, kk_ne ln]; exact c63 63 5 (by decide)) (fun i j g1 g2 => by simp (disch := omega) only [ev_rd1, ev_rd2, ev_rd3, k_mkp_63, k_mkp_o, kk_ne ln]; exact c63 i j (by omega)))⟩
    · rw [c63 63 3 (by decide)]; exact b3
    · unfold nW
      simp (disch := omega) only [ev_rd1, ev_rd2, ev_rd3, k_mkp_63, k_mkp_o, kk_ne ln]
      rw [c4 4 7 (by decide) (by decide)]
    · refine ⟨?_, ?_, ?_, ?_, ?_⟩
      · simp (disch := omega) only [ev_rd1, ev_rd2, ev_rd3, k_mkp_63, k_mkp_o, kk_ne ln]; rw [c63 63 0 (by decide), e]; simp (disch := omega) only [ev_rd1, ev_rd2, ev_rd3, k_mkp_63, k_mkp_o, kk_ne ln]; rw [z_mn_le, b0]
      · simp (disch := omega) only [ev_rd1, ev_rd2, ev_rd3, k_mkp_63, k_mkp_o, kk_ne ln]; rw [c63 63 1 (by decide), e]; simp (disch := omega) only [ev_rd1, ev_rd2, ev_rd3, k_mkp_63, k_mkp_o, kk_ne ln]; exact b1
      · simp (disch := omega) only [ev_rd1, ev_rd2, ev_rd3, k_mkp_63, k_mkp_o, kk_ne ln]; rw [c63 63 2 (by decide), e]; simp (disch := omega) only [ev_rd1, ev_rd2, ev_rd3, k_mkp_63, k_mkp_o, kk_ne ln]; exact b2
      · simp (disch := omega) only [ev_rd1, ev_rd2, ev_rd3, k_mkp_63, k_mkp_o, kk_ne ln]; rw [e]; simp (disch := omega) only [ev_rd1, ev_rd2, ev_rd3, k_mkp_63, k_mkp_o, kk_ne ln]
      · simp (disch := omega) only [ev_rd1, ev_rd2, ev_rd3, k_mkp_63, k_mkp_o, kk_ne ln]; rw [c63 63 4 (by decide), e]; simp (disch := omega) only [ev_rd1, ev_rd2, ev_rd3, k_mkp_63, k_mkp_o, kk_ne ln]; exact b4

theorem w_pressureZ (L : Nat) (b : Bool) (h : Hp) (hB : Bx h) (v : Int32) : EvI mi_X9_pressure [.ref 1, .int v] (G0 L b) h (fun r z => r = r_press h v ∧ z = k_press h (nX h) v) [(11, 1), (11, 2), (11, 3), (13, 999), (14, 999), (15, 999), (16, 999), (17, 999), (18, 999), (19, 999), (20, 999), (21, 999), (22, 999), (2, 0)] := by
  refine (x_pressure L b h (nX h) (nX_lt hB) (nX_eq hB) v).ix ?_
  unfold k_press
  split
  · exact JW.refl hB
  · rename_i q
    have J0 : JW [(11, 1), (11, 2), (11, 3), (13, 999), (14, 999), (15, 999), (16, 999), (17, 999), (18, 999), (19, 999), (20, 999), (21, 999), (22, 999), (2, 0)] h (k_keep h (nX h)) := (jw_keep hB (nX_lt hB)).widen rfl
    exact J0.set rfl (z_wi_B (by decide : B 0 0 0) (show B (h 2 3) 0 200 from hB 2 3) q)
theorem w_mpressureZ (L : Nat) (b : Bool) (h : Hp) (hB : Bx h) (v : Int32) : EvI mi_X10_pressure [.ref 63, .int v] (G0 L b) h (fun r z => r = rmPr h v ∧ z = kmPr h v) [(63, 13), (71, 999), (63, 0)] := by
  refine (m_xpressure L b h hB v).ix ?_
  unfold kmPr
  split
  · exact JW.refl hB
  · rename_i q
    have J0 : JW [(63, 13), (71, 999), (63, 0)] h (k_mkp h) := (jw_mkp hB).widen rfl
    exact J0.set rfl (z_wi_B (by decide : B 0 0 0) (show B (h 63 3) 0 200 from hB 63 3) q)
theorem rel_pressure {h h1 : Hp} (hB : Bx h) (hB1 : Bx h1) (hE : RE h) (v : Int32) (e1 : h1 = k_press h (nX h) v) : r_press h v = rmPr h1 v ∧ RE (kmPr h1 v) := by
  obtain ⟨⟨b0, b1, b2, b3, b4⟩, hW, hA⟩ := id hE
  have ln := nX_lt hB
  by_cases q : z_wi v 0 (h 2 3) = 0
  · have e : h1 = h := by rw [e1]; unfold k_press; rw [if_pos q]
    have q2 : z_wi v 0 (h 63 3) = 0 := by rw [← b3]; exact q
    unfold r_press rmPr kmPr
    rw [e, if_pos q, if_pos q2, if_pos q2]
    exact ⟨rfl, hE⟩
  · have e : h1 = ev_set (k_keep h (nX h)) 2 0 v := by rw [e1]; unfold k_press; rw [if_neg q]
    have q2 : ¬ z_wi v 0 (h1 63 3) = 0 := by
      rw [e]
      rw [show z_wi v 0 (ev_set (k_keep h (nX h)) 2 0 v 63 3) = z_wi v 0 (h 2 3) from by simp (disch := omega) only [ev_rd1, ev_rd2, ev_rd3, k_mkp_63, k_mkp_o, kk_ne ln]; rw [← b3]]
      exact q
    unfold r_press rmPr kmPr
    rw [if_neg q, if_neg q2, if_neg q2]
    have c63 : ∀ i j, 63 ≤ i → h1 i j = h i j := fun i j hi => by rw [e]; simp (disch := omega) only [ev_rd1, ev_rd2, ev_rd3, k_mkp_63, k_mkp_o, kk_ne ln]
    have c4 : ∀ i j, 4 ≤ i → i ≤ 10 → h1 i j = h i j := fun i j g1 g2 => by rw [e]; simp (disch := omega) only [ev_rd1, ev_rd2, ev_rd3, k_mkp_63, k_mkp_o, kk_ne ln]
    refine ⟨?_, act_re hB hB1 hE (fun j => by rw [e]; simp (disch := omega) only [ev_rd1, ev_rd2, ev_rd3, k_mkp_63, k_mkp_o, kk_ne ln]) (fun i hi j => by rw [e]; simp (disch := omega) only [ev_rd1, ev_rd2, ev_rd3, k_mkp_63, k_mkp_o, kk_ne ln]) c63 (fun j => by simp (disch := omega) only [ev_rd1, ev_rd2, ev_rd3, k_mkp_63, k_mkp_o, kk_ne ln]) (fun i hi j => by simp (disch := omega) only [ev_rd1, ev_rd2, ev_rd3, k_mkp_63, k_mkp_o, kk_ne ln]) (fun j => by simp (disch := omega) only [ev_rd1, ev_rd2, ev_rd3, k_mkp_63, k_mkp_o, kk_ne ln]) (by simp (disch := omega) only [ev_rd1, ev_rd2, ev_rd3, k_mkp_63, k_mkp_o, kk_ne ln]) ?_ ?_ (RWs.cg hW (fun i j g1 g2 => by simp (disch := omega) only [ev_rd1, ev_rd2, ev_rd3, k_mkp_63, k_mkp_o, kk_ne ln]; exact c4 i j g1 g2) (by simp (disch := omega) only [ev_rd1, ev_rd2, ev_rd3, k_mkp_63, k_mkp_o, kk_ne ln]; exact c63 63 5 (by decide)) (fun i j g1 g2 => by simp (disch := omega) only [ev_rd1, ev_rd2, ev_rd3, k_mkp_63, k_mkp_o, kk_ne ln]; exact c63 i j (by omega)))⟩
    · rw [c63 63 0 (by decide)]; exact b0
    · unfold nW
      simp (disch := omega) only [ev_rd1, ev_rd2, ev_rd3, k_mkp_63, k_mkp_o, kk_ne ln]
      rw [c4 4 7 (by decide) (by decide)]
    · refine ⟨?_, ?_, ?_, ?_, ?_⟩
      · simp (disch := omega) only [ev_rd1, ev_rd2, ev_rd3, k_mkp_63, k_mkp_o, kk_ne ln]; rw [e]; simp (disch := omega) only [ev_rd1, ev_rd2, ev_rd3, k_mkp_63, k_mkp_o, kk_ne ln]
      · simp (disch := omega) only [ev_rd1, ev_rd2, ev_rd3, k_mkp_63, k_mkp_o, kk_ne ln]; rw [c63 63 1 (by decide), e]; simp (disch := omega) only [ev_rd1, ev_rd2, ev_rd3, k_mkp_63, k_mkp_o, kk_ne ln]; exact b1
      · simp (disch := omega) only [ev_rd1, ev_rd2, ev_rd3, k_mkp_63, k_mkp_o, kk_ne ln]; rw [c63 63 2 (by decide), e]; simp (disch := omega) only [ev_rd1, ev_rd2, ev_rd3, k_mkp_63, k_mkp_o, kk_ne ln]; exact b2
      · simp (disch := omega) only [ev_rd1, ev_rd2, ev_rd3, k_mkp_63, k_mkp_o, kk_ne ln]; rw [c63 63 3 (by decide), e]; simp (disch := omega) only [ev_rd1, ev_rd2, ev_rd3, k_mkp_63, k_mkp_o, kk_ne ln]; exact b3
      · simp (disch := omega) only [ev_rd1, ev_rd2, ev_rd3, k_mkp_63, k_mkp_o, kk_ne ln]; rw [c63 63 4 (by decide), e]; simp (disch := omega) only [ev_rd1, ev_rd2, ev_rd3, k_mkp_63, k_mkp_o, kk_ne ln]; exact b4
