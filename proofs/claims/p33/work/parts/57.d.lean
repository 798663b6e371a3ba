theorem kk_ne {h : Hp} {n : Nat} (hn : n < 10) {i j : Nat} (h1 : i ≠ 11) (h2 : i < 13 ∨ 23 ≤ i) : k_keep h n i j = h i j := k_keep_ne (by omega) h1
theorem RWs.cg {h h2 : Hp} (hW : RWs h) (e : ∀ i j, 4 ≤ i → i ≤ 10 → h2 i j = h i j) (e5 : h2 63 5 = h 63 5) (e6 : ∀ i j, 64 ≤ i → i ≤ 70 → h2 i j = h i j) : RWs h2 := by
  obtain ⟨w1, w2, w3⟩ := hW
  have ew : nW h2 = nW h := by unfold nW; rw [e 4 7 (by decide) (by decide)]
  have f9 : h2 9 = h 9 := funext (fun j => e 9 j (by decide) (by decide))
  have f10 : h2 10 = h 10 := funext (fun j => e 10 j (by decide) (by decide))
  refine ⟨by rw [e 4 7 (by decide) (by decide), e5]; exact w1, fun w hw => ?_, by rw [ew, f9, f10, e 4 6 (by decide) (by decide)]; exact w3⟩
  rw [ew] at hw
  have z := w2 w hw
  unfold RW1
  rw [e 5 w (by decide) (by decide), e 6 w (by decide) (by decide), e 7 w (by decide) (by decide), e 8 w (by decide) (by decide), e 9 w (by decide) (by decide), e 10 w (by decide) (by decide), e 4 6 (by decide) (by decide), e6 64 w (by decide) (by decide), e6 65 w (by decide) (by decide), e6 66 w (by decide) (by decide), e6 67 w (by decide) (by decide), e6 68 w (by decide) (by decide), e6 69 w (by decide) (by decide), e6 70 w (by decide) (by decide)]
  exact z
theorem nX_lt {h : Hp} (hB : Bx h) : nX h < 10 := by have := (B.nI (u := 9) (hB 11 1)).2; unfold nX; omega
theorem nX_eq {h : Hp} (hB : Bx h) : h 11 1 = nI (nX h) := (B.nI (u := 9) (hB 11 1)).1
theorem z_cap_min2 (x : Int32) : z_cap x = z_min 9999 x := (z_cap_min x).symm
theorem z_mn_le (x v : Int32) : (if x ≤ v then x else v) = z_min x v := by
  unfold z_min
  by_cases q : v < x
  · rw [if_pos q, if_neg (Int32.not_le.mpr q)]
  · rw [if_neg q, if_pos (Int32.not_lt.mp q)]

theorem z_min_B2 {x v : Int32} (hx : B x 0 200) (hv : B v 0 200) : B (z_min x v) 0 200 := by
  unfold z_min
  split
  · exact hv
  · exact hx

theorem w_fireZ (L : Nat) (b : Bool) (h : Hp) (hB : Bx h) (v : Int32) : EvI mi_X9_fire [.ref 1, .int v] (G0 L b) h (fun r z => r = r_fire h v ∧ z = k_fire h (nX h) v) [(11, 1), (11, 2), (11, 3), (13, 999), (14, 999), (15, 999), (16, 999), (17, 999), (18, 999), (19, 999), (20, 999), (21, 999), (22, 999), (2, 2)] := by
  refine (x_fire L b h (nX h) (nX_lt hB) (nX_eq hB) v).ix ?_
  unfold k_fire
  split
  · exact JW.refl hB
  · rename_i q
    have J0 : JW [(11, 1), (11, 2), (11, 3), (13, 999), (14, 999), (15, 999), (16, 999), (17, 999), (18, 999), (19, 999), (20, 999), (21, 999), (22, 999), (2, 2)] h (k_keep h (nX h)) := (jw_keep hB (nX_lt hB)).widen rfl
    exact J0.set rfl (B.any _)
theorem w_mfireZ (L : Nat) (b : Bool) (h : Hp) (hB : Bx h) (v : Int32) : EvI mi_X10_fire [.ref 63, .int v] (G0 L b) h (fun r z => r = rmFi h v ∧ z = kmFi h v) [(63, 13), (71, 999), (63, 2)] := by
  refine (m_xfire L b h hB v).ix ?_
  unfold kmFi
  split
  · exact JW.refl hB
  · rename_i q
    have J0 : JW [(63, 13), (71, 999), (63, 2)] h (k_mkp h) := (jw_mkp hB).widen rfl
    exact J0.set rfl (B.any _)
theorem rel_fire {h h1 : Hp} (hB : Bx h) (hB1 : Bx h1) (hE : RE h) (v : Int32) (e1 : h1 = k_fire h (nX h) v) : r_fire h v = rmFi h1 v ∧ RE (kmFi h1 v) := by
  obtain ⟨⟨b0, b1, b2, b3, b4⟩, hW, hA⟩ := id hE
  have ln := nX_lt hB
  by_cases q : z_wi v 0 9 = 0
  · have e : h1 = h := by rw [e1]; unfold k_fire; rw [if_pos q]
    have q2 : z_wi v 0 9 = 0 := by exact q
    unfold r_fire rmFi kmFi
    rw [e, if_pos q, if_pos q2, if_pos q2]
    exact ⟨rfl, hE⟩
  · have e : h1 = ev_set (k_keep h (nX h)) 2 2 v := by rw [e1]; unfold k_fire; rw [if_neg q]
    have q2 : ¬ z_wi v 0 9 = 0 := by
      skip
      skip
      exact q
    unfold r_fire rmFi kmFi
    rw [if_neg q, if_neg q2, if_neg q2]
    have c63 : ∀ i j, 63 ≤ i → h1 i j = h i j := fun i j hi => by rw [e]; simp (disch := omega) only [ev_rd1, ev_rd2, ev_rd3, k_mkp_63, k_mkp_o, kk_ne ln]
    have c4 : ∀ i j, 4 ≤ i → i ≤ 10 → h1 i j = h i j := fun i j g1 g2 => by rw [e]; simp (disch := omega) only [ev_rd1, ev_rd2, ev_rd3, k_mkp_63, k_mkp_o, kk_ne ln]
    refine ⟨?_, act_re hB hB1 hE (fun j => by rw [e]; simp (disch := omega) only [ev_rd1, ev_rd2, ev_rd3, k_mkp_63, k_mkp_o, kk_ne ln]) (fun i hi j => by rw [e]; simp (disch := omega) only [ev_rd1, ev_rd2, ev_rd3, k_mkp_63, k_mkp_o, kk_ne ln]) c63 (fun j => by simp (disch := omega) only [ev_rd1, ev_rd2, ev_rd3, k_mkp_63, k_mkp_o, kk_ne ln]) (fun i hi j => by simp (disch := omega) only [ev_rd1, ev_rd2, ev_rd3, k_mkp_63, k_mkp_o, kk_ne ln]) (fun j => by simp (disch := omega) only [ev_rd1, ev_rd2, ev_rd3, k_mkp_63, k_mkp_o, kk_ne ln]) (by simp (disch := omega) only [ev_rd1, ev_rd2, ev_rd3, k_mkp_63, k_mkp_o, kk_ne ln]) ?_ ?_ (RWs.cg hW (fun i j g1 g2 => by simp (disch := omega) only [ev_rd1, ev_rd2, ev_rd3, k_mkp_63, k_mkp_o, kk_ne ln]; exact c4 i j g1 g2) (by simp (disch := omega) only [ev_rd1, ev_rd2, ev_rd3, k_mkp_63, k_mkp_o, kk_ne ln]; exact c63 63 5 (by decide)) (fun i j g1 g2 => by simp (disch := omega) only [ev_rd1, ev_rd2, ev_rd3, k_mkp_63, k_mkp_o, kk_ne ln]; exact c63 i j (by omega)))⟩
    · rw [c63 63 2 (by decide)]; exact b2
    · unfold nW
      simp (disch := omega) only [ev_rd1, ev_rd2, ev_rd3, k_mkp_63, k_mkp_o, kk_ne ln]
      rw [c4 4 7 (by decide) (by decide)]
    · refine ⟨?_, ?_, ?_, ?_, ?_⟩
      · simp (disch := omega) only [ev_rd1, ev_rd2, ev_rd3, k_mkp_63, k_mkp_o, kk_ne ln]; rw [c63 63 0 (by decide), e]; simp (disch := omega) only [ev_rd1, ev_rd2, ev_rd3, k_mkp_63, k_mkp_o, kk_ne ln]; exact b0
      · simp (disch := omega) only [ev_rd1, ev_rd2, ev_rd3, k_mkp_63, k_mkp_o, kk_ne ln]; rw [c63 63 1 (by decide), e]; simp (disch := omega) only [ev_rd1, ev_rd2, ev_rd3, k_mkp_63, k_mkp_o, kk_ne ln]; exact b1
      · simp (disch := omega) only [ev_rd1, ev_rd2, ev_rd3, k_mkp_63, k_mkp_o, kk_ne ln]; rw [e]; simp (disch := omega) only [ev_rd1, ev_rd2, ev_rd3, k_mkp_63, k_mkp_o, kk_ne ln]
      · simp (disch := omega) only [ev_rd1, ev_rd2, ev_rd3, k_mkp_63, k_mkp_o, kk_ne ln]; rw [c63 63 3 (by decide), e]; simp (disch := omega) only [ev_rd1, ev_rd2, ev_rd3, k_mkp_63, k_mkp_o, kk_ne ln]; exact b3
      · simp (disch := omega) only [ev_rd1, ev_rd2, ev_rd3, k_mkp_63, k_mkp_o, kk_ne ln]; rw [c63 63 4 (by decide), e]; simp (disch := omega) only [ev_rd1, ev_rd2, ev_rd3, k_mkp_63, k_mkp_o, kk_ne ln]; exact b4

theorem w_waterZ (L : Nat) (b : Bool) (h : Hp) (hB : Bx h) (v : Int32) : EvI mi_X9_water [.ref 1, .int v] (G0 L b) h (fun r z => r = r_water h v ∧ z = k_water h (nX h) v) [(11, 1), (11, 2), (11, 3), (13, 999), (14, 999), (15, 999), (16, 999), (17, 999), (18, 999), (19, 999), (20, 999), (21, 999), (22, 999), (2, 1)] := by
  refine (x_water L b h (nX h) (nX_lt hB) (nX_eq hB) v).ix ?_
  unfold k_water
  split
  · exact JW.refl hB
  · rename_i q
    have J0 : JW [(11, 1), (11, 2), (11, 3), (13, 999), (14, 999), (15, 999), (16, 999), (17, 999), (18, 999), (19, 999), (20, 999), (21, 999), (22, 999), (2, 1)] h (k_keep h (nX h)) := (jw_keep hB (nX_lt hB)).widen rfl
    exact J0.set rfl (B.any _)
theorem w_mwaterZ (L : Nat) (b : Bool) (h : Hp) (hB : Bx h) (v : Int32) : EvI mi_X10_water [.ref 63, .int v] (G0 L b) h (fun r z => r = rmWa h v ∧ z = kmWa h v) [(63, 13), (71, 999), (63, 1)] := by
  refine (m_xwater L b h hB v).ix ?_
  unfold kmWa
  split
  · exact JW.refl hB
  · rename_i q
    have J0 : JW [(63, 13), (71, 999), (63, 1)] h (k_mkp h) := (jw_mkp hB).widen rfl
    exact J0.set rfl (B.any _)
theorem rel_water {h h1 : Hp} (hB : Bx h) (hB1 : Bx h1) (hE : RE h) (v : Int32) (e1 : h1 = k_water h (nX h) v) : r_water h v = rmWa h1 v ∧ RE (kmWa h1 v) := by
  obtain ⟨⟨b0, b1, b2, b3, b4⟩, hW, hA⟩ := id hE
  have ln := nX_lt hB
  by_cases q : z_wi v 1 9999 = 0
  · have e : h1 = h := by rw [e1]; unfold k_water; rw [if_pos q]
    have q2 : z_wi v 1 9999 = 0 := by exact q
    unfold r_water rmWa kmWa
    rw [e, if_pos q, if_pos q2, if_pos q2]
    exact ⟨rfl, hE⟩
  · have e : h1 = ev_set (k_keep h (nX h)) 2 1 (z_min 9999 (h 2 1 + v)) := by rw [e1]; unfold k_water; rw [if_neg q]
    have q2 : ¬ z_wi v 1 9999 = 0 := by
      skip
      skip
      exact q
    unfold r_water rmWa kmWa
    rw [if_neg q, if_neg q2, if_neg q2]
    have c63 : ∀ i j, 63 ≤ i → h1 i j = h i j := fun i j hi => by rw [e]; simp (disch := omega) only [ev_rd1, ev_rd2, ev_rd3, k_mkp_63, k_mkp_o, kk_ne ln]
    have c4 : ∀ i j, 4 ≤ i → i ≤ 10 → h1 i j = h i j := fun i j g1 g2 => by rw [e]; simp (disch := omega) only [ev_rd1, ev_rd2, ev_rd3, k_mkp_63, k_mkp_o, kk_ne ln]
    refine ⟨?_, act_re hB hB1 hE (fun j => by rw [e]; simp (disch := omega) only [ev_rd1, ev_rd2, ev_rd3, k_mkp_63, k_mkp_o, kk_ne ln]) (fun i hi j => by rw [e]; simp (disch := omega) only [ev_rd1, ev_rd2, ev_rd3, k_mkp_63, k_mkp_o, kk_ne ln]) c63 (fun j => by simp (disch := omega) only [ev_rd1, ev_rd2, ev_rd3, k_mkp_63, k_mkp_o, kk_ne ln]) (fun i hi j => by simp (disch := omega) only [ev_rd1, ev_rd2, ev_rd3, k_mkp_63, k_mkp_o, kk_ne ln]) (fun j => by simp (disch := omega) only [ev_rd1, ev_rd2, ev_rd3, k_mkp_63, k_mkp_o, kk_ne ln]) (by simp (disch := omega) only [ev_rd1, ev_rd2, ev_rd3, k_mkp_63, k_mkp_o, kk_ne ln]) ?_ ?_ (RWs.cg hW (fun i j g1 g2 => by simp (disch := omega) only [ev_rd1, ev_rd2, ev_rd3, k_mkp_63, k_mkp_o, kk_ne ln]; exact c4 i j g1 g2) (by simp (disch := omega) only [ev_rd1, ev_rd2, ev_rd3, k_mkp_63, k_mkp_o, kk_ne ln]; exact c63 63 5 (by decide)) (fun i j g1 g2 => by simp (disch := omega) only [ev_rd1, ev_rd2, ev_rd3, k_mkp_63, k_mkp_o, kk_ne ln]; exact c63 i j (by omega)))⟩
    · rw [c63 63 1 (by decide), z_cap_min2, b1]
    · unfold nW
      simp (disch := omega) only [ev_rd1, ev_rd2, ev_rd3, k_mkp_63, k_mkp_o, kk_ne ln]
      rw [c4 4 7 (by decide) (by decide)]
    · refine ⟨?_, ?_, ?_, ?_, ?_⟩
      · simp (disch := omega) only [ev_rd1, ev_rd2, ev_rd3, k_mkp_63, k_mkp_o, kk_ne ln]; rw [c63 63 0 (by decide), e]; simp (disch := omega) only [ev_rd1, ev_rd2, ev_rd3, k_mkp_63, k_mkp_o, kk_ne ln]; exact b0
      · simp (disch := omega) only [ev_rd1, ev_rd2, ev_rd3, k_mkp_63, k_mkp_o, kk_ne ln]; rw [c63 63 1 (by decide), e]; simp (disch := omega) only [ev_rd1, ev_rd2, ev_rd3, k_mkp_63, k_mkp_o, kk_ne ln]; rw [z_cap_min2, b1]
      · simp (disch := omega) only [ev_rd1, ev_rd2, ev_rd3, k_mkp_63, k_mkp_o, kk_ne ln]; rw [c63 63 2 (by decide), e]; simp (disch := omega) only [ev_rd1, ev_rd2, ev_rd3, k_mkp_63, k_mkp_o, kk_ne ln]; exact b2
      · simp (disch := omega) only [ev_rd1, ev_rd2, ev_rd3, k_mkp_63, k_mkp_o, kk_ne ln]; rw [c63 63 3 (by decide), e]; simp (disch := omega) only [ev_rd1, ev_rd2, ev_rd3, k_mkp_63, k_mkp_o, kk_ne ln]; exact b3
      · simp (disch := omega) only [ev_rd1, ev_rd2, ev_rd3, k_mkp_63, k_mkp_o, kk_ne ln]; rw [c63 63 4 (by decide), e]; simp (disch := omega) only [ev_rd1, ev_rd2, ev_rd3, k_mkp_63, k_mkp_o, kk_ne ln]; exact b4

theorem w_valveZ (L : Nat) (b : Bool) (h : Hp) (hB : Bx h) (v : Int32) : EvI mi_X9_valve [.ref 1, .int v] (G0 L b) h (fun r z => r = r_valve h v ∧ z = k_valve h (nX h) v) [(11, 1), (11, 2), (11, 3), (13, 999), (14, 999), (15, 999), (16, 999), (17, 999), (18, 999), (19, 999), (20, 999), (21, 999), (22, 999), (2, 3), (2, 0)] := by
  refine (x_valve L b h (nX h) (nX_lt hB) (nX_eq hB) v).ix ?_
  unfold k_valve
  split
  · exact JW.refl hB
  · rename_i q
    have J0 : JW [(11, 1), (11, 2), (11, 3), (13, 999), (14, 999), (15, 999), (16, 999), (17, 999), (18, 999), (19, 999), (20, 999), (21, 999), (22, 999), (2, 3), (2, 0)] h (k_keep h (nX h)) := (jw_keep hB (nX_lt hB)).widen rfl
    have bv : B v 0 200 := (z_wi_B (by decide : B 50 50 50) (by decide : B 200 200 200) q).mono (by decide) (by decide)
    exact (J0.set rfl bv).set rfl (z_min_B2 (hB 2 0) bv)
theorem w_mvalveZ (L : Nat) (b : Bool) (h : Hp) (hB : Bx h) (v : Int32) : EvI mi_X10_valve [.ref 63, .int v] (G0 L b) h (fun r z => r = rmVa h v ∧ z = kmVa h v) [(63, 13), (71, 999), (63, 3), (63, 0)] := by
  refine (m_xvalve L b h hB v).ix ?_
  unfold kmVa
  split
  · exact JW.refl hB
  · rename_i q
    have J0 : JW [(63, 13), (71, 999), (63, 3), (63, 0)] h (k_mkp h) := (jw_mkp hB).widen rfl
    have bv : B v 0 200 := (z_wi_B (by decide : B 50 50 50) (by decide : B 200 200 200) q).mono (by decide) (by decide)
    exact (J0.set rfl bv).set rfl (by rw [z_mn_le]; exact z_min_B2 (hB 63 0) bv)
theorem rel_valve {h h1 : Hp} (hB : Bx h) (hB1 : Bx h1) (hE : RE h) (v : Int32) (e1 : h1 = k_valve h (nX h) v) : r_valve h v = rmVa h1 v ∧ RE (kmVa h1 v) := by
  obtain ⟨⟨b0, b1, b2, b3, b4⟩, hW, hA⟩ := id hE
  have ln := nX_lt hB
  by_cases q : z_wi v 50 200 = 0
  · have e : h1 = h := by rw [e1]; unfold k_valve; rw [if_pos q]
    have q2 : z_wi v 50 200 = 0 := by exact q
    unfold r_valve rmVa kmVa
    rw [e, if_pos q, if_pos q2, if_pos q2]
    exact ⟨rfl, hE⟩
  · have e : h1 = ev_set (ev_set (k_keep h (nX h)) 2 3 v) 2 0 (z_min (h 2 0) v) := by rw [e1]; unfold k_valve; rw [if_neg q]
    have q2 : ¬ z_wi v 50 200 = 0 := by
      skip
      skip
      exact q
    unfold r_valve rmVa kmVa
    rw [if_neg q, if_neg q2, if_neg q2]
    have c63 : ∀ i j, 63 ≤ i → h1 i j = h i j := fun i j hi => by rw [e]; simp (disch := omega) only [ev_rd1, ev_rd2, ev_rd3, k_mkp_63, k_mkp_o, kk_ne ln]
    have c4 : ∀ i j, 4 ≤ i → i ≤ 10 → h1 i j = h i j := fun i j g1 g2 => by rw [e]; simp (disch := omega) only [ev_rd1, ev_rd2, ev_rd3, k_mkp_63, k_mkp_o, kk_ne ln]
    refine ⟨?_, act_re hB hB1 hE (fun j => by rw [e]; simp (disch := omega) only [ev_rd1, ev_rd2, ev_rd3, k_mkp_63, k_mkp_o, kk_ne ln]) (fun i hi j => by rw [e]; simp (disch := omega) only [ev_rd1, ev_rd2, ev_rd3, k_mkp_63, k_mkp_o, kk_ne ln]) c63 (fun j => by simp (disch := omega) only [ev_rd1, ev_rd2, ev_rd3, k_mkp_63, k_mkp_o, kk_ne ln]) (fun i hi j => by simp (disch := omega) only [ev_rd1, ev_rd2, ev_rd3, k_mkp_63, k_mkp_o, kk_ne ln]) (fun j => by simp (disch := omega) only [ev_rd1, ev_rd2, ev_rd3, k_mkp_63, k_mkp_o, kk_ne ln]) (by simp (disch := omega) only [ev_rd1, ev_rd2, ev_rd3, k_mkp_63, k_mkp_o, kk_ne ln]) ?_ ?_ (RWs.cg hW (fun i j g1 g2 => by simp (disch := omega) only [ev_rd1, ev_rd2, ev_rd3, k_mkp_63, k_mkp_o, kk_ne ln]; exact c4 i j g1 g2) (by simp (disch := omega) only [ev_rd1, ev_rd2, ev_rd3, k_mkp_63, k_mkp_o, kk_ne ln]; exact c63 63 5 (by decide)) (fun i j g1 g2 => by simp (disch := omega) only [ev_rd1, ev_rd2, ev_rd3, k_mkp_63, k_mkp_o, kk_ne ln]; exact c63 i j (by omega)))⟩
    · rw [c63 63 3 (by decide)]; exact b3
    · unfold nW
      simp (disch := omega) only [ev_rd1, ev_rd2, ev_rd3, k_mkp_63, k_mkp_o, kk_ne ln]
      rw [c4 4 7 (by decide) (by decide)]
    · refine ⟨?_, ?_, ?_, ?_, ?_⟩
      · simp (disch := omega) only [ev_rd1, ev_rd2, ev_rd3, k_mkp_63, k_mkp_o, kk_ne ln]; rw [c63 63 0 (by decide), e]; simp (disch := omega) only [ev_rd1, ev_rd2, ev_rd3, k_mkp_63, k_mkp_o, kk_ne ln]; rw [z_mn_le, b0]
      · simp (disch := omega) only [ev_rd1, ev_rd2, ev_rd3, k_mkp_63, k_mkp_o, kk_ne ln]; rw [c63 63 1 (by decide), e]; simp (disch := omega) only [ev_rd1, ev_rd2, ev_rd3, k_mkp_63, k_mkp_o, kk_ne ln]; exact b1
      · simp (disch := omega) only [ev_rd1, ev_rd2, ev_rd3, k_mkp_63, k_mkp_o, kk_ne ln]; rw [c63 63 2 (by decide), e]; simp (disch := omega) only [ev_rd1, ev_rd2, ev_rd3, k_mkp_63, k_mkp_o, kk_ne ln]; exact b2
      · simp (disch := omega) only [ev_rd1, ev_rd2, ev_rd3, k_mkp_63, k_mkp_o, kk_ne ln]; rw [e]; simp (disch := omega) only [ev_rd1, ev_rd2, ev_rd3, k_mkp_63, k_mkp_o, kk_ne ln]
      · simp (disch := omega) only [ev_rd1, ev_rd2, ev_rd3, k_mkp_63, k_mkp_o, kk_ne ln]; rw [c63 63 4 (by decide), e]; simp (disch := omega) only [ev_rd1, ev_rd2, ev_rd3, k_mkp_63, k_mkp_o, kk_ne ln]; exact b4

theorem w_pressureZ (L : Nat) (b : Bool) (h : Hp) (hB : Bx h) (v : Int32) : EvI mi_X9_pressure [.ref 1, .int v] (G0 L b) h (fun r z => r = r_press h v ∧ z = k_press h (nX h) v) [(11, 1), (11, 2), (11, 3), (13, 999), (14, 999), (15, 999), (16, 999), (17, 999), (18, 999), (19, 999), (20, 999), (21, 999), (22, 999), (2, 0)] := by
  refine (x_pressure L b h (nX h) (nX_lt hB) (nX_eq hB) v).ix ?_
  unfold k_press
  split
  · exact JW.refl hB
  · rename_i q
    have J0 : JW [(11, 1), (11, 2), (11, 3), (13, 999), (14, 999), (15, 999), (16, 999), (17, 999), (18, 999), (19, 999), (20, 999), (21, 999), (22, 999), (2, 0)] h (k_keep h (nX h)) := (jw_keep hB (nX_lt hB)).widen rfl
    exact J0.set rfl (z_wi_B (by decide : B 0 0 0) (show B (h 2 3) 0 200 from hB 2 3) q)
theorem w_mpressureZ (L : Nat) (b : Bool) (h : Hp) (hB : Bx h) (v : Int32) : EvI mi_X10_pressure [.ref 63, .int v] (G0 L b) h (fun r z => r = rmPr h v ∧ z = kmPr h v) [(63, 13), (71, 999), (63, 0)] := by
  refine (m_xpressure L b h hB v).ix ?_
  unfold kmPr
  split
  · exact JW.refl hB
  · rename_i q
    have J0 : JW [(63, 13), (71, 999), (63, 0)] h (k_mkp h) := (jw_mkp hB).widen rfl
    exact J0.set rfl (z_wi_B (by decide : B 0 0 0) (show B (h 63 3) 0 200 from hB 63 3) q)
theorem rel_pressure {h h1 : Hp} (hB : Bx h) (hB1 : Bx h1) (hE : RE h) (v : Int32) (e1 : h1 = k_press h (nX h) v) : r_press h v = rmPr h1 v ∧ RE (kmPr h1 v) := by
  obtain ⟨⟨b0, b1, b2, b3, b4⟩, hW, hA⟩ := id hE
  have ln := nX_lt hB
  by_cases q : z_wi v 0 (h 2 3) = 0
  · have e : h1 = h := by rw [e1]; unfold k_press; rw [if_pos q]
    have q2 : z_wi v 0 (h 63 3) = 0 := by rw [← b3]; exact q
    unfold r_press rmPr kmPr
    rw [e, if_pos q, if_pos q2, if_pos q2]
    exact ⟨rfl, hE⟩
  · have e : h1 = ev_set (k_keep h (nX h)) 2 0 v := by rw [e1]; unfold k_press; rw [if_neg q]
    have q2 : ¬ z_wi v 0 (h1 63 3) = 0 := by
      rw [e]
      rw [show z_wi v 0 (ev_set (k_keep h (nX h)) 2 0 v 63 3) = z_wi v 0 (h 2 3) from by simp (disch := omega) only [ev_rd1, ev_rd2, ev_rd3, k_mkp_63, k_mkp_o, kk_ne ln]; rw [← b3]]
      exact q
    unfold r_press rmPr kmPr
    rw [if_neg q, if_neg q2, if_neg q2]
    have c63 : ∀ i j, 63 ≤ i → h1 i j = h i j := fun i j hi => by rw [e]; simp (disch := omega) only [ev_rd1, ev_rd2, ev_rd3, k_mkp_63, k_mkp_o, kk_ne ln]
    have c4 : ∀ i j, 4 ≤ i → i ≤ 10 → h1 i j = h i j := fun i j g1 g2 => by rw [e]; simp (disch := omega) only [ev_rd1, ev_rd2, ev_rd3, k_mkp_63, k_mkp_o, kk_ne ln]
    refine ⟨?_, act_re hB hB1 hE (fun j => by rw [e]; simp (disch := omega) only [ev_rd1, ev_rd2, ev_rd3, k_mkp_63, k_mkp_o, kk_ne ln]) (fun i hi j => by rw [e]; simp (disch := omega) only [ev_rd1, ev_rd2, ev_rd3, k_mkp_63, k_mkp_o, kk_ne ln]) c63 (fun j => by simp (disch := omega) only [ev_rd1, ev_rd2, ev_rd3, k_mkp_63, k_mkp_o, kk_ne ln]) (fun i hi j => by simp (disch := omega) only [ev_rd1, ev_rd2, ev_rd3, k_mkp_63, k_mkp_o, kk_ne ln]) (fun j => by simp (disch := omega) only [ev_rd1, ev_rd2, ev_rd3, k_mkp_63, k_mkp_o, kk_ne ln]) (by simp (disch := omega) only [ev_rd1, ev_rd2, ev_rd3, k_mkp_63, k_mkp_o, kk_ne ln]) ?_ ?_ (RWs.cg hW (fun i j g1 g2 => by simp (disch := omega) only [ev_rd1, ev_rd2, ev_rd3, k_mkp_63, k_mkp_o, kk_ne ln]; exact c4 i j g1 g2) (by simp (disch := omega) only [ev_rd1, ev_rd2, ev_rd3, k_mkp_63, k_mkp_o, kk_ne ln]; exact c63 63 5 (by decide)) (fun i j g1 g2 => by simp (disch := omega) only [ev_rd1, ev_rd2, ev_rd3, k_mkp_63, k_mkp_o, kk_ne ln]; exact c63 i j (by omega)))⟩
    · rw [c63 63 0 (by decide)]; exact b0
    · unfold nW
      simp (disch := omega) only [ev_rd1, ev_rd2, ev_rd3, k_mkp_63, k_mkp_o, kk_ne ln]
      rw [c4 4 7 (by decide) (by decide)]
    · refine ⟨?_, ?_, ?_, ?_, ?_⟩
      · simp (disch := omega) only [ev_rd1, ev_rd2, ev_rd3, k_mkp_63, k_mkp_o, kk_ne ln]; rw [e]; simp (disch := omega) only [ev_rd1, ev_rd2, ev_rd3, k_mkp_63, k_mkp_o, kk_ne ln]
      · simp (disch := omega) only [ev_rd1, ev_rd2, ev_rd3, k_mkp_63, k_mkp_o, kk_ne ln]; rw [c63 63 1 (by decide), e]; simp (disch := omega) only [ev_rd1, ev_rd2, ev_rd3, k_mkp_63, k_mkp_o, kk_ne ln]; exact b1
      · simp (disch := omega) only [ev_rd1, ev_rd2, ev_rd3, k_mkp_63, k_mkp_o, kk_ne ln]; rw [c63 63 2 (by decide), e]; simp (disch := omega) only [ev_rd1, ev_rd2, ev_rd3, k_mkp_63, k_mkp_o, kk_ne ln]; exact b2
      · simp (disch := omega) only [ev_rd1, ev_rd2, ev_rd3, k_mkp_63, k_mkp_o, kk_ne ln]; rw [c63 63 3 (by decide), e]; simp (disch := omega) only [ev_rd1, ev_rd2, ev_rd3, k_mkp_63, k_mkp_o, kk_ne ln]; exact b3
      · simp (disch := omega) only [ev_rd1, ev_rd2, ev_rd3, k_mkp_63, k_mkp_o, kk_ne ln]; rw [c63 63 4 (by decide), e]; simp (disch := omega) only [ev_rd1, ev_rd2, ev_rd3, k_mkp_63, k_mkp_o, kk_ne ln]; exact b4
theorem andn_bit (v : Int32) {w k : Nat} (hw : w < 12) (hk : k < 12) : (v &&& (1 <<< (nI w &&& 31) ^^^ (-1))) >>> (nI k &&& 31) &&& 1 = if k = w then 0 else v >>> (nI k &&& 31) &&& 1 := by
  have em : (-1 : Int32).toBitVec.getLsbD k = true := by
    rcases (show k = 0 ∨ k = 1 ∨ k = 2 ∨ k = 3 ∨ k = 4 ∨ k = 5 ∨ k = 6 ∨ k = 7 ∨ k = 8 ∨ k = 9 ∨ k = 10 ∨ k = 11 by omega) with rfl | rfl | rfl | rfl | rfl | rfl | rfl | rfl | rfl | rfl | rfl | rfl <;> decide
  rw [bit_get _ hk, Int32.toBitVec_and, BitVec.getLsbD_and, Int32.toBitVec_xor, BitVec.getLsbD_xor, shl_get hw hk, em, bit_get _ hk]
  by_cases q : k = w
  · rw [if_pos q, decide_eq_true q]
    simp
  · rw [if_neg q, decide_eq_false q]
    simp
theorem RWs.st {h h2 : Hp} (hW : RWs h) {w : Nat} (hw : w < nW h) (v : Int32) (e9 : ∀ j, h2 9 j = if j = w then v else h 9 j) (e68 : ∀ j, h2 68 j = if j = w then v else h 68 j) (e : ∀ i j, 4 ≤ i → i ≤ 10 → i ≠ 9 → h2 i j = h i j) (e5 : h2 63 5 = h 63 5) (e6 : ∀ i j, 64 ≤ i → i ≤ 70 → i ≠ 68 → h2 i j = h i j) : RWs h2 := by
  obtain ⟨w1, w2, w3⟩ := hW
  have ew : nW h2 = nW h := by unfold nW; rw [e 4 7 (by decide) (by decide) (by decide)]
  refine ⟨by rw [e 4 7 (by decide) (by decide) (by decide), e5]; exact w1, fun u hu => ?_, fun u h1 h12 => ?_⟩
  · rw [ew] at hu
    obtain ⟨z1, z2, z3, z4, z5, z6, z7, z8⟩ := w2 u hu
    unfold RW1
    rw [e 5 u (by decide) (by decide) (by decide), e 6 u (by decide) (by decide) (by decide), e 7 u (by decide) (by decide) (by decide), e 8 u (by decide) (by decide) (by decide), e9, e 10 u (by decide) (by decide) (by decide), e 4 6 (by decide) (by decide) (by decide), e6 64 u (by decide) (by decide) (by decide), e6 65 u (by decide) (by decide) (by decide), e6 66 u (by decide) (by decide) (by decide), e6 67 u (by decide) (by decide) (by decide), e68, e6 69 u (by decide) (by decide) (by decide), e6 70 u (by decide) (by decide) (by decide)]
    refine ⟨z1, z2, z3, z4, ?_, z6, z7, z8⟩
    by_cases q : u = w
    · rw [if_pos q, if_pos q]
    · rw [if_neg q, if_neg q]; exact z5
  · rw [ew] at h1
    have z := w3 u h1 h12
    rw [e9, if_neg (by omega), e 10 u (by decide) (by decide) (by decide), e 4 6 (by decide) (by decide) (by decide)]
    exact z
theorem RWs.cr {h h2 : Hp} (hW : RWs h) {w : Nat} (hw : w < nW h) (v : Int32) (e9 : ∀ j, h2 10 j = if j = w then v else h 10 j) (e68 : ∀ j, h2 69 j = if j = w then v else h 69 j) (e : ∀ i j, 4 ≤ i → i ≤ 10 → i ≠ 10 → h2 i j = h i j) (e5 : h2 63 5 = h 63 5) (e6 : ∀ i j, 64 ≤ i → i ≤ 70 → i ≠ 69 → h2 i j = h i j) : RWs h2 := by
  obtain ⟨w1, w2, w3⟩ := hW
  have ew : nW h2 = nW h := by unfold nW; rw [e 4 7 (by decide) (by decide) (by decide)]
  refine ⟨by rw [e 4 7 (by decide) (by decide) (by decide), e5]; exact w1, fun u hu => ?_, fun u h1 h12 => ?_⟩
  · rw [ew] at hu
    obtain ⟨z1, z2, z3, z4, z5, z6, z7, z8⟩ := w2 u hu
    unfold RW1
    rw [e 5 u (by decide) (by decide) (by decide), e 6 u (by decide) (by decide) (by decide), e 7 u (by decide) (by decide) (by decide), e 8 u (by decide) (by decide) (by decide), e9, e 9 u (by decide) (by decide) (by decide), e 4 6 (by decide) (by decide) (by decide), e6 64 u (by decide) (by decide) (by decide), e6 65 u (by decide) (by decide) (by decide), e6 66 u (by decide) (by decide) (by decide), e6 67 u (by decide) (by decide) (by decide), e68, e6 68 u (by decide) (by decide) (by decide), e6 70 u (by decide) (by decide) (by decide)]
    refine ⟨z1, z2, z3, z4, z5, ?_, z7, z8⟩
    by_cases q : u = w
    · rw [if_pos q, if_pos q]
    · rw [if_neg q, if_neg q]; exact z6
  · rw [ew] at h1
    have z := w3 u h1 h12
    rw [e9, if_neg (by omega), e 9 u (by decide) (by decide) (by decide), e 4 6 (by decide) (by decide) (by decide)]
    exact z
theorem RWs.lk {h h2 : Hp} (hW : RWs h) {w : Nat} (hw : w < nW h) (h12' : nW h ≤ 12) (v : Int32) (e46 : ∀ k, k < 12 → h2 4 6 >>> (nI k &&& 31) &&& 1 = if k = w then v else h 4 6 >>> (nI k &&& 31) &&& 1) (e47 : h2 4 7 = h 4 7) (e70 : ∀ j, h2 70 j = if j = w then v else h 70 j) (e : ∀ i j, 5 ≤ i → i ≤ 10 → h2 i j = h i j) (e5 : h2 63 5 = h 63 5) (e6 : ∀ i j, 64 ≤ i → i ≤ 69 → h2 i j = h i j) : RWs h2 := by
  obtain ⟨w1, w2, w3⟩ := hW
  have ew : nW h2 = nW h := by unfold nW; rw [e47]
  refine ⟨by rw [e47, e5]; exact w1, fun u hu => ?_, fun u h1 h12 => ?_⟩
  · rw [ew] at hu
    obtain ⟨z1, z2, z3, z4, z5, z6, z7, z8⟩ := w2 u hu
    unfold RW1
    rw [e 5 u (by decide) (by decide), e 6 u (by decide) (by decide), e 7 u (by decide) (by decide), e 8 u (by decide) (by decide), e 9 u (by decide) (by decide), e 10 u (by decide) (by decide), e46 u (by omega), e70, e6 64 u (by decide) (by decide), e6 65 u (by decide) (by decide), e6 66 u (by decide) (by decide), e6 67 u (by decide) (by decide), e6 68 u (by decide) (by decide), e6 69 u (by decide) (by decide)]
    refine ⟨z1, z2, z3, z4, z5, z6, ?_, z8⟩
    by_cases q : u = w
    · rw [if_pos q, if_pos q]
    · rw [if_neg q, if_neg q]; exact z7
  · rw [ew] at h1
    have z := w3 u h1 h12
    rw [e 9 u (by decide) (by decide), e 10 u (by decide) (by decide), e46 u h12, if_neg (by omega)]
    exact z

theorem w_stemZ (L : Nat) (b : Bool) (h : Hp) (hB : Bx h) (w v : Int32) : EvI mi_X9_stem [.ref 1, .int w, .int v] (G0 L b) h (fun r z => r = r_stem h w v ∧ z = k_stem h (nX h) w v) [(11, 1), (11, 2), (11, 3), (13, 999), (14, 999), (15, 999), (16, 999), (17, 999), (18, 999), (19, 999), (20, 999), (21, 999), (22, 999), (9, 999)] := by
  refine (x_stem L b h (nW h) (B.nI (u := 12) (hB 4 7)).2 (B.nI (u := 12) (hB 4 7)).1 (nX h) (nX_lt hB) (nX_eq hB) w v).ix ?_
  have J0 : JW [(11, 1), (11, 2), (11, 3), (13, 999), (14, 999), (15, 999), (16, 999), (17, 999), (18, 999), (19, 999), (20, 999), (21, 999), (22, 999), (9, 999)] h (k_keep h (nX h)) := (jw_keep hB (nX_lt hB)).widen rfl
  unfold k_stem
  repeat' split
  all_goals first | exact JW.refl hB | exact J0.set rfl (B.any _)
theorem w_mstemZ (L : Nat) (b : Bool) (h : Hp) (hB : Bx h) (w v : Int32) : EvI mi_X10_stem [.ref 63, .int w, .int v] (G0 L b) h (fun r z => r = rmSt_ h w v ∧ z = kmSt_ h w v) [(63, 13), (71, 999), (68, 999)] := by
  refine (m_xstem L b h hB w v).ix ?_
  have J0 : JW [(63, 13), (71, 999), (68, 999)] h (k_mkp h) := (jw_mkp hB).widen rfl
  unfold kmSt_
  repeat' split
  all_goals first | exact JW.refl hB | exact J0.set rfl (B.any _)

theorem w_crackZ (L : Nat) (b : Bool) (h : Hp) (hB : Bx h) (w v : Int32) : EvI mi_X9_crack [.ref 1, .int w, .int v] (G0 L b) h (fun r z => r = r_crack h w v ∧ z = k_crack h (nX h) w v) [(11, 1), (11, 2), (11, 3), (13, 999), (14, 999), (15, 999), (16, 999), (17, 999), (18, 999), (19, 999), (20, 999), (21, 999), (22, 999), (10, 999)] := by
  refine (x_crack L b h (nW h) (B.nI (u := 12) (hB 4 7)).2 (B.nI (u := 12) (hB 4 7)).1 (nX h) (nX_lt hB) (nX_eq hB) w v).ix ?_
  have J0 : JW [(11, 1), (11, 2), (11, 3), (13, 999), (14, 999), (15, 999), (16, 999), (17, 999), (18, 999), (19, 999), (20, 999), (21, 999), (22, 999), (10, 999)] h (k_keep h (nX h)) := (jw_keep hB (nX_lt hB)).widen rfl
  unfold k_crack
  repeat' split
  all_goals first | exact JW.refl hB | exact J0.set rfl (B.any _)
theorem w_mcrackZ (L : Nat) (b : Bool) (h : Hp) (hB : Bx h) (w v : Int32) : EvI mi_X10_crack [.ref 63, .int w, .int v] (G0 L b) h (fun r z => r = rmCr h w v ∧ z = kmCr h w v) [(63, 13), (71, 999), (69, 999)] := by
  refine (m_xcrack L b h hB w v).ix ?_
  have J0 : JW [(63, 13), (71, 999), (69, 999)] h (k_mkp h) := (jw_mkp hB).widen rfl
  unfold kmCr
  repeat' split
  all_goals first | exact JW.refl hB | exact J0.set rfl (B.any _)

theorem w_leakZ (L : Nat) (b : Bool) (h : Hp) (hB : Bx h) (w q : Int32) : EvI mi_X9_leak [.ref 1, .int w, .int q] (G0 L b) h (fun r z => r = r_leak h w ∧ z = k_leak h (nX h) w q) [(11, 1), (11, 2), (11, 3), (13, 999), (14, 999), (15, 999), (16, 999), (17, 999), (18, 999), (19, 999), (20, 999), (21, 999), (22, 999), (4, 6)] := by
  refine (x_leak L b h (nW h) (B.nI (u := 12) (hB 4 7)).2 (B.nI (u := 12) (hB 4 7)).1 (nX h) (nX_lt hB) (nX_eq hB) w q).ix ?_
  have J0 : JW [(11, 1), (11, 2), (11, 3), (13, 999), (14, 999), (15, 999), (16, 999), (17, 999), (18, 999), (19, 999), (20, 999), (21, 999), (22, 999), (4, 6)] h (k_keep h (nX h)) := (jw_keep hB (nX_lt hB)).widen rfl
  unfold k_leak
  repeat' split
  all_goals first | exact JW.refl hB | exact J0.set rfl (B.any _)
theorem w_mleakZ (L : Nat) (b : Bool) (h : Hp) (hB : Bx h) (w q : Int32) (hq : q = 0 ∨ q = 1) : EvI mi_X10_leak [.ref 63, .int w, .int q] (G0 L b) h (fun r z => r = rmLk h w ∧ z = kmLk h w q) [(63, 13), (71, 999), (70, 999)] := by
  refine (m_xleak L b h hB w q hq).ix ?_
  have J0 : JW [(63, 13), (71, 999), (70, 999)] h (k_mkp h) := (jw_mkp hB).widen rfl
  unfold kmLk
  repeat' split
  all_goals first | exact JW.refl hB | exact J0.set rfl (B.any _)

theorem rel_stem {h h1 : Hp} (hB : Bx h) (hB1 : Bx h1) (hE : RE h) (w v : Int32) (e1 : h1 = k_stem h (nX h) w v) : r_stem h w v = rmSt_ h1 w v ∧ RE (kmSt_ h1 w v) := by
  obtain ⟨⟨b0, b1, b2, b3, b4⟩, hW, hA⟩ := id hE
  have ln := nX_lt hB
  have l12 : nW h ≤ 12 := (B.nI (u := 12) (hB 4 7)).2
  have w1 := hW.1
  by_cases q0 : z_has w (h 4 7) = 0
  · have q0' : z_has w (h 63 5) = 0 := by rw [← w1]; exact q0
    have e : h1 = h := by rw [e1]; unfold k_stem; rw [if_pos q0]
    unfold r_stem rmSt_ kmSt_
    rw [e, if_pos q0, if_pos q0', if_pos q0']
    exact ⟨rfl, hE⟩
  have q0' : ¬ z_has w (h 63 5) = 0 := by rw [← w1]; exact q0
  by_cases q1 : z_wi v (-100) 100 = 0
  · skip
    have e : h1 = h := by rw [e1]; unfold k_stem; rw [if_neg q0, if_pos q1]
    unfold r_stem rmSt_ kmSt_
    rw [e, if_neg q0, if_pos q1, if_neg q0', if_pos q1, if_neg q0', if_pos q1]
    exact ⟨rfl, hE⟩
  obtain ⟨j, hj, rfl⟩ := z_hask (B.nI (u := 12) (hB 4 7)).1 (B.nI (u := 12) (hB 4 7)).2 (by decide) q0
  have hjn : j < nW h := hj
  have ej := nI_clamp (show j < 2 ^ 31 by omega)
  obtain ⟨z1, z2, z3, z4, z5, z6, z7, z8⟩ := hW.2.1 j hjn
  by_cases q2 : h 8 j = 0
  · have e : h1 = ev_set (k_keep h (nX h)) 9 j v := by rw [e1]; unfold k_stem; rw [if_neg q0, if_neg q1, ej, if_pos q2]
    have c63 : ∀ i j, 63 ≤ i → h1 i j = h i j := fun i j hi => by rw [e]; simp (disch := omega) only [ev_rd1, ev_rd2, ev_rd3, k_mkp_63, k_mkp_o, kk_ne ln]
    have q0m : ¬ z_has (nI j) (h1 63 5) = 0 := by rw [c63 63 5 (by decide)]; exact q0'
    have q2m : h1 67 j = 0 := by rw [c63 67 j (by decide), ← z4]; exact q2
    unfold r_stem rmSt_ kmSt_
    rw [if_neg q0, if_neg q1, ej, if_pos q2, if_neg q0m, if_neg q1, if_pos q2m, if_neg q0m, if_neg q1, if_pos q2m]
    refine ⟨by rw [c63 68 j (by decide)]; exact z5, act_re hB hB1 hE (fun j => by rw [e]; simp (disch := omega) only [ev_rd1, ev_rd2, ev_rd3, k_mkp_63, k_mkp_o, kk_ne ln]) (fun i hi j => by rw [e]; simp (disch := omega) only [ev_rd1, ev_rd2, ev_rd3, k_mkp_63, k_mkp_o, kk_ne ln]) c63 (fun j => by simp (disch := omega) only [ev_rd1, ev_rd2, ev_rd3, k_mkp_63, k_mkp_o, kk_ne ln]) (fun i hi j => by simp (disch := omega) only [ev_rd1, ev_rd2, ev_rd3, k_mkp_63, k_mkp_o, kk_ne ln]) (fun j => by simp (disch := omega) only [ev_rd1, ev_rd2, ev_rd3, k_mkp_63, k_mkp_o, kk_ne ln]) (by simp (disch := omega) only [ev_rd1, ev_rd2, ev_rd3, k_mkp_63, k_mkp_o, kk_ne ln]) ?_ ?_ (RWs.st hW hjn v (fun u => by rw [show (ev_set (k_mkp h1) 68 j v) 9 u = h1 9 u from by simp (disch := omega) only [ev_rd1, ev_rd2, ev_rd3, k_mkp_63, k_mkp_o, kk_ne ln], e, ev_sj, kk_ne ln (by omega) (by omega)]) (fun u => by rw [ev_sj, k_mkp_o (by decide) (by decide), c63 68 u (by decide)]) (fun i j g1 g2 g3 => by simp (disch := omega) only [ev_rd1, ev_rd2, ev_rd3, k_mkp_63, k_mkp_o, kk_ne ln]; rw [e]; simp (disch := omega) only [ev_rd1, ev_rd2, ev_rd3, k_mkp_63, k_mkp_o, kk_ne ln]) (by simp (disch := omega) only [ev_rd1, ev_rd2, ev_rd3, k_mkp_63, k_mkp_o, kk_ne ln]; exact c63 63 5 (by decide)) (fun i j g1 g2 g3 => by simp (disch := omega) only [ev_rd1, ev_rd2, ev_rd3, k_mkp_63, k_mkp_o, kk_ne ln]; exact c63 i j (by omega)))⟩
    · unfold nW; simp (disch := omega) only [ev_rd1, ev_rd2, ev_rd3, k_mkp_63, k_mkp_o, kk_ne ln]; rw [e]; simp (disch := omega) only [ev_rd1, ev_rd2, ev_rd3, k_mkp_63, k_mkp_o, kk_ne ln]
    · skip
      refine ⟨?_, ?_, ?_, ?_, ?_⟩
      · simp (disch := omega) only [ev_rd1, ev_rd2, ev_rd3, k_mkp_63, k_mkp_o, kk_ne ln]; rw [c63 63 0 (by decide), e]; simp (disch := omega) only [ev_rd1, ev_rd2, ev_rd3, k_mkp_63, k_mkp_o, kk_ne ln]; exact b0
      · simp (disch := omega) only [ev_rd1, ev_rd2, ev_rd3, k_mkp_63, k_mkp_o, kk_ne ln]; rw [c63 63 1 (by decide), e]; simp (disch := omega) only [ev_rd1, ev_rd2, ev_rd3, k_mkp_63, k_mkp_o, kk_ne ln]; exact b1
      · simp (disch := omega) only [ev_rd1, ev_rd2, ev_rd3, k_mkp_63, k_mkp_o, kk_ne ln]; rw [c63 63 2 (by decide), e]; simp (disch := omega) only [ev_rd1, ev_rd2, ev_rd3, k_mkp_63, k_mkp_o, kk_ne ln]; exact b2
      · simp (disch := omega) only [ev_rd1, ev_rd2, ev_rd3, k_mkp_63, k_mkp_o, kk_ne ln]; rw [c63 63 3 (by decide), e]; simp (disch := omega) only [ev_rd1, ev_rd2, ev_rd3, k_mkp_63, k_mkp_o, kk_ne ln]; exact b3
      · simp (disch := omega) only [ev_rd1, ev_rd2, ev_rd3, k_mkp_63, k_mkp_o, kk_ne ln]; rw [c63 63 4 (by decide), e]; simp (disch := omega) only [ev_rd1, ev_rd2, ev_rd3, k_mkp_63, k_mkp_o, kk_ne ln]; exact b4
  · have q2' : ¬ h 67 j = 0 := by rw [← z4]; exact q2
    have e : h1 = h := by rw [e1]; unfold k_stem; rw [if_neg q0, if_neg q1, ej, if_neg q2]
    unfold r_stem rmSt_ kmSt_
    rw [e, if_neg q0, if_neg q1, ej, if_neg q2, if_neg q0', if_neg q1, if_neg q2', if_neg q0', if_neg q1, if_neg q2']
    exact ⟨rfl, hE⟩
theorem rel_crack {h h1 : Hp} (hB : Bx h) (hB1 : Bx h1) (hE : RE h) (w v : Int32) (e1 : h1 = k_crack h (nX h) w v) : r_crack h w v = rmCr h1 w v ∧ RE (kmCr h1 w v) := by
  obtain ⟨⟨b0, b1, b2, b3, b4⟩, hW, hA⟩ := id hE
  have ln := nX_lt hB
  have l12 : nW h ≤ 12 := (B.nI (u := 12) (hB 4 7)).2
  have w1 := hW.1
  by_cases q0 : z_has w (h 4 7) = 0
  · have q0' : z_has w (h 63 5) = 0 := by rw [← w1]; exact q0
    have e : h1 = h := by rw [e1]; unfold k_crack; rw [if_pos q0]
    unfold r_crack rmCr kmCr
    rw [e, if_pos q0, if_pos q0', if_pos q0']
    exact ⟨rfl, hE⟩
  have q0' : ¬ z_has w (h 63 5) = 0 := by rw [← w1]; exact q0
  by_cases q1 : z_wi v (-200) 200 = 0
  · skip
    have e : h1 = h := by rw [e1]; unfold k_crack; rw [if_neg q0, if_pos q1]
    unfold r_crack rmCr kmCr
    rw [e, if_neg q0, if_pos q1, if_neg q0', if_pos q1, if_neg q0', if_pos q1]
    exact ⟨rfl, hE⟩
  obtain ⟨j, hj, rfl⟩ := z_hask (B.nI (u := 12) (hB 4 7)).1 (B.nI (u := 12) (hB 4 7)).2 (by decide) q0
  have hjn : j < nW h := hj
  have ej := nI_clamp (show j < 2 ^ 31 by omega)
  obtain ⟨z1, z2, z3, z4, z5, z6, z7, z8⟩ := hW.2.1 j hjn
  have e : h1 = ev_set (k_keep h (nX h)) 10 j v := by rw [e1]; unfold k_crack; rw [if_neg q0, if_neg q1, ej]
  have c63 : ∀ i j, 63 ≤ i → h1 i j = h i j := fun i j hi => by rw [e]; simp (disch := omega) only [ev_rd1, ev_rd2, ev_rd3, k_mkp_63, k_mkp_o, kk_ne ln]
  have q0m : ¬ z_has (nI j) (h1 63 5) = 0 := by rw [c63 63 5 (by decide)]; exact q0'
  unfold r_crack rmCr kmCr
  rw [if_neg q0, if_neg q1, ej, if_neg q0m, if_neg q1, if_neg q0m, if_neg q1]
  refine ⟨by rw [c63 69 j (by decide)]; exact z6, act_re hB hB1 hE (fun j => by rw [e]; simp (disch := omega) only [ev_rd1, ev_rd2, ev_rd3, k_mkp_63, k_mkp_o, kk_ne ln]) (fun i hi j => by rw [e]; simp (disch := omega) only [ev_rd1, ev_rd2, ev_rd3, k_mkp_63, k_mkp_o, kk_ne ln]) c63 (fun j => by simp (disch := omega) only [ev_rd1, ev_rd2, ev_rd3, k_mkp_63, k_mkp_o, kk_ne ln]) (fun i hi j => by simp (disch := omega) only [ev_rd1, ev_rd2, ev_rd3, k_mkp_63, k_mkp_o, kk_ne ln]) (fun j => by simp (disch := omega) only [ev_rd1, ev_rd2, ev_rd3, k_mkp_63, k_mkp_o, kk_ne ln]) (by simp (disch := omega) only [ev_rd1, ev_rd2, ev_rd3, k_mkp_63, k_mkp_o, kk_ne ln]) ?_ ?_ (RWs.cr hW hjn v (fun u => by rw [show (ev_set (k_mkp h1) 69 j v) 10 u = h1 10 u from by simp (disch := omega) only [ev_rd1, ev_rd2, ev_rd3, k_mkp_63, k_mkp_o, kk_ne ln], e, ev_sj, kk_ne ln (by omega) (by omega)]) (fun u => by rw [ev_sj, k_mkp_o (by decide) (by decide), c63 69 u (by decide)]) (fun i j g1 g2 g3 => by simp (disch := omega) only [ev_rd1, ev_rd2, ev_rd3, k_mkp_63, k_mkp_o, kk_ne ln]; rw [e]; simp (disch := omega) only [ev_rd1, ev_rd2, ev_rd3, k_mkp_63, k_mkp_o, kk_ne ln]) (by simp (disch := omega) only [ev_rd1, ev_rd2, ev_rd3, k_mkp_63, k_mkp_o, kk_ne ln]; exact c63 63 5 (by decide)) (fun i j g1 g2 g3 => by simp (disch := omega) only [ev_rd1, ev_rd2, ev_rd3, k_mkp_63, k_mkp_o, kk_ne ln]; exact c63 i j (by omega)))⟩
  · unfold nW; simp (disch := omega) only [ev_rd1, ev_rd2, ev_rd3, k_mkp_63, k_mkp_o, kk_ne ln]; rw [e]; simp (disch := omega) only [ev_rd1, ev_rd2, ev_rd3, k_mkp_63, k_mkp_o, kk_ne ln]
  · skip
    refine ⟨?_, ?_, ?_, ?_, ?_⟩
    · simp (disch := omega) only [ev_rd1, ev_rd2, ev_rd3, k_mkp_63, k_mkp_o, kk_ne ln]; rw [c63 63 0 (by decide), e]; simp (disch := omega) only [ev_rd1, ev_rd2, ev_rd3, k_mkp_63, k_mkp_o, kk_ne ln]; exact b0
    · simp (disch := omega) only [ev_rd1, ev_rd2, ev_rd3, k_mkp_63, k_mkp_o, kk_ne ln]; rw [c63 63 1 (by decide), e]; simp (disch := omega) only [ev_rd1, ev_rd2, ev_rd3, k_mkp_63, k_mkp_o, kk_ne ln]; exact b1
    · simp (disch := omega) only [ev_rd1, ev_rd2, ev_rd3, k_mkp_63, k_mkp_o, kk_ne ln]; rw [c63 63 2 (by decide), e]; simp (disch := omega) only [ev_rd1, ev_rd2, ev_rd3, k_mkp_63, k_mkp_o, kk_ne ln]; exact b2
    · simp (disch := omega) only [ev_rd1, ev_rd2, ev_rd3, k_mkp_63, k_mkp_o, kk_ne ln]; rw [c63 63 3 (by decide), e]; simp (disch := omega) only [ev_rd1, ev_rd2, ev_rd3, k_mkp_63, k_mkp_o, kk_ne ln]; exact b3
    · simp (disch := omega) only [ev_rd1, ev_rd2, ev_rd3, k_mkp_63, k_mkp_o, kk_ne ln]; rw [c63 63 4 (by decide), e]; simp (disch := omega) only [ev_rd1, ev_rd2, ev_rd3, k_mkp_63, k_mkp_o, kk_ne ln]; exact b4
theorem rel_leak {h h1 : Hp} (hB : Bx h) (hB1 : Bx h1) (hE : RE h) (w q : Int32) (hq : q = 0 ∨ q = 1) (e1 : h1 = k_leak h (nX h) w q) : r_leak h w = rmLk h1 w ∧ RE (kmLk h1 w q) := by
  obtain ⟨⟨b0, b1, b2, b3, b4⟩, hW, hA⟩ := id hE
  have ln := nX_lt hB
  have l12 : nW h ≤ 12 := (B.nI (u := 12) (hB 4 7)).2
  have w1 := hW.1
  by_cases q0 : z_has w (h 4 7) = 0
  · have q0' : z_has w (h 63 5) = 0 := by rw [← w1]; exact q0
    have e : h1 = h := by rw [e1]; unfold k_leak; rw [if_pos q0]
    unfold r_leak rmLk kmLk
    rw [e, if_pos q0, if_pos q0', if_pos q0']
    exact ⟨rfl, hE⟩
  have q0' : ¬ z_has w (h 63 5) = 0 := by rw [← w1]; exact q0
  obtain ⟨j, hj, rfl⟩ := z_hask (B.nI (u := 12) (hB 4 7)).1 (B.nI (u := 12) (hB 4 7)).2 (by decide) q0
  have hjn : j < nW h := hj
  have ej := nI_clamp (show j < 2 ^ 31 by omega)
  obtain ⟨z1, z2, z3, z4, z5, z6, z7, z8⟩ := hW.2.1 j hjn
  obtain ⟨x, e, hx⟩ : ∃ x : Int32, h1 = ev_set (k_keep h (nX h)) 4 6 x ∧ ∀ k, k < 12 → x >>> (nI k &&& 31) &&& 1 = if k = j then q else h 4 6 >>> (nI k &&& 31) &&& 1 := by
    rcases hq with rfl | rfl
    · exact ⟨_, by rw [e1]; unfold k_leak; rw [if_neg q0, if_pos rfl], fun k hk => andn_bit _ (by omega) hk⟩
    · exact ⟨_, by rw [e1]; unfold k_leak; rw [if_neg q0, if_neg (by decide)], fun k hk => or_bit _ (by omega) hk⟩
  have c63 : ∀ i j, 63 ≤ i → h1 i j = h i j := fun i j hi => by rw [e]; simp (disch := omega) only [ev_rd1, ev_rd2, ev_rd3, k_mkp_63, k_mkp_o, kk_ne ln]
  have q0m : ¬ z_has (nI j) (h1 63 5) = 0 := by rw [c63 63 5 (by decide)]; exact q0'
  unfold r_leak rmLk kmLk
  rw [if_neg q0, if_neg q0m, if_neg q0m, ej]
  refine ⟨?_, act_re hB hB1 hE (fun j => by rw [e]; simp (disch := omega) only [ev_rd1, ev_rd2, ev_rd3, k_mkp_63, k_mkp_o, kk_ne ln]) (fun i hi j => by rw [e]; simp (disch := omega) only [ev_rd1, ev_rd2, ev_rd3, k_mkp_63, k_mkp_o, kk_ne ln]) c63 (fun j => by simp (disch := omega) only [ev_rd1, ev_rd2, ev_rd3, k_mkp_63, k_mkp_o, kk_ne ln]) (fun i hi j => by simp (disch := omega) only [ev_rd1, ev_rd2, ev_rd3, k_mkp_63, k_mkp_o, kk_ne ln]) (fun j => by simp (disch := omega) only [ev_rd1, ev_rd2, ev_rd3, k_mkp_63, k_mkp_o, kk_ne ln]) (by simp (disch := omega) only [ev_rd1, ev_rd2, ev_rd3, k_mkp_63, k_mkp_o, kk_ne ln]) ?_ ?_ (RWs.lk hW hjn l12 q (fun k hk => by rw [show ev_set (k_mkp h1) 70 j q 4 6 = x from by simp (disch := omega) only [ev_rd1, ev_rd2, ev_rd3, k_mkp_63, k_mkp_o, kk_ne ln]; rw [e]; exact ev_rd1 _ _ _ _]; exact hx k hk) (by simp (disch := omega) only [ev_rd1, ev_rd2, ev_rd3, k_mkp_63, k_mkp_o, kk_ne ln]; rw [e]; simp (disch := omega) only [ev_rd1, ev_rd2, ev_rd3, k_mkp_63, k_mkp_o, kk_ne ln]) (fun u => by rw [ev_sj, k_mkp_o (by decide) (by decide), c63 70 u (by decide)]) (fun i j g1 g2 => by simp (disch := omega) only [ev_rd1, ev_rd2, ev_rd3, k_mkp_63, k_mkp_o, kk_ne ln]; rw [e]; simp (disch := omega) only [ev_rd1, ev_rd2, ev_rd3, k_mkp_63, k_mkp_o, kk_ne ln]) (by simp (disch := omega) only [ev_rd1, ev_rd2, ev_rd3, k_mkp_63, k_mkp_o, kk_ne ln]; exact c63 63 5 (by decide)) (fun i j g1 g2 => by simp (disch := omega) only [ev_rd1, ev_rd2, ev_rd3, k_mkp_63, k_mkp_o, kk_ne ln]; exact c63 i j (by omega)))⟩
  · rw [c63 70 j (by decide), z7]
    rcases bit_01 (h 4 6) (nI j &&& 31) with y | y
    · rw [← z7, y, if_pos rfl]
    · rw [← z7, y, if_neg (by decide)]
  · unfold nW; simp (disch := omega) only [ev_rd1, ev_rd2, ev_rd3, k_mkp_63, k_mkp_o, kk_ne ln]; rw [e]; simp (disch := omega) only [ev_rd1, ev_rd2, ev_rd3, k_mkp_63, k_mkp_o, kk_ne ln]
  · skip
    refine ⟨?_, ?_, ?_, ?_, ?_⟩
    · simp (disch := omega) only [ev_rd1, ev_rd2, ev_rd3, k_mkp_63, k_mkp_o, kk_ne ln]; rw [c63 63 0 (by decide), e]; simp (disch := omega) only [ev_rd1, ev_rd2, ev_rd3, k_mkp_63, k_mkp_o, kk_ne ln]; exact b0
    · simp (disch := omega) only [ev_rd1, ev_rd2, ev_rd3, k_mkp_63, k_mkp_o, kk_ne ln]; rw [c63 63 1 (by decide), e]; simp (disch := omega) only [ev_rd1, ev_rd2, ev_rd3, k_mkp_63, k_mkp_o, kk_ne ln]; exact b1
    · simp (disch := omega) only [ev_rd1, ev_rd2, ev_rd3, k_mkp_63, k_mkp_o, kk_ne ln]; rw [c63 63 2 (by decide), e]; simp (disch := omega) only [ev_rd1, ev_rd2, ev_rd3, k_mkp_63, k_mkp_o, kk_ne ln]; exact b2
    · simp (disch := omega) only [ev_rd1, ev_rd2, ev_rd3, k_mkp_63, k_mkp_o, kk_ne ln]; rw [c63 63 3 (by decide), e]; simp (disch := omega) only [ev_rd1, ev_rd2, ev_rd3, k_mkp_63, k_mkp_o, kk_ne ln]; exact b3
    · simp (disch := omega) only [ev_rd1, ev_rd2, ev_rd3, k_mkp_63, k_mkp_o, kk_ne ln]; rw [c63 63 4 (by decide), e]; simp (disch := omega) only [ev_rd1, ev_rd2, ev_rd3, k_mkp_63, k_mkp_o, kk_ne ln]; exact b4

