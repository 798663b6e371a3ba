/-- the class's whistles: those that were, those that are new (row u of a scan from f on) -/
def AO (h z : Hp) (n0 : Nat) : Prop := ∀ w, w < n0 → ∀ a, 5 ≤ a → a ≤ 8 → z a w = h a w
def ixS (f : Int32) (u : Nat) : Nat := (f + 4 * nI u).toNatClampNeg
def AN (c : Nat → Int32) (f : Int32) (z : Hp) (n0 i : Nat) : Prop := ∀ u, u < i → ixS f u + 4 ≤ 60 ∧ z 5 (n0 + u) = c (ixS f u) ∧ z 6 (n0 + u) = c (ixS f u + 1) ∧ z 7 (n0 + u) = c (ixS f u + 2) ∧ z 8 (n0 + u) = z_01 (c (ixS f u + 3)) ∧ B (z 6 (n0 + u)) 1 9 ∧ B (z 7 (n0 + u)) 0 20 ∧ B (z 5 (n0 + u)) 0 3600
def AOm (h z : Hp) (n0 : Nat) : Prop := ∀ w, w < n0 → ∀ a, 64 ≤ a → a ≤ 70 → z a w = h a w
def ANm (c : Nat → Int32) (f : Int32) (z : Hp) (n0 i : Nat) : Prop := ∀ u, u < i → z 64 (n0 + u) = c (ixS f u) ∧ z 65 (n0 + u) = c (ixS f u + 1) ∧ z 66 (n0 + u) = c (ixS f u + 2) ∧ z 67 (n0 + u) = z_01 (c (ixS f u + 3)) ∧ z 68 (n0 + u) = 0 ∧ z 69 (n0 + u) = 0 ∧ z 70 (n0 + u) = 0
def kO (h : Hp) (c : Nat → Int32) (s a : Int32) : Hp := if 0 ≤ a.toInt ∧ a.toInt + 4 ≤ s.toInt then k_add h (h 4 7).toNatClampNeg (c a.toNatClampNeg) (c (a.toNatClampNeg + 1)) (c (a.toNatClampNeg + 2)) (z_01 (c (a.toNatClampNeg + 3))) else h
theorem k_add_ok {h : Hp} {m : Nat} {n d s : Int32} (q : Int32) (hw : B (h 4 7) 0 12) (e : ¬ zA (h 4 7) n d s < 0) : k_add h m n d s q = ev_set (ev_set (ev_set (ev_set (ev_set h 5 m n) 6 m d) 7 m s) 8 m q) 4 7 (h 4 7 + 1) ∧ h 4 7 < 12 ∧ B d 1 9 ∧ B s 0 20 ∧ B n 0 3600 := by
  unfold zA at e
  unfold k_add
  by_cases q1 : z_wi n 0 3600 = 0
  · rw [if_pos q1] at e; exact absurd (by decide) e
  · rw [if_neg q1] at e
    by_cases q2 : z_wi d 1 9 = 0
    · rw [if_pos q2] at e; exact absurd (by decide) e
    · rw [if_neg q2] at e
      by_cases q3 : z_wi s 0 20 = 0
      · rw [if_pos q3] at e; exact absurd (by decide) e
      · rw [if_neg q3] at e
        by_cases q4 : h 4 7 < 12
        · rw [if_neg q1, if_neg q2, if_neg q3, if_pos q4]
          exact ⟨rfl, q4, z_wi_B (by decide : B 1 1 1) (by decide : B 9 9 9) q2, z_wi_B (by decide : B 0 0 0) (by decide : B 20 20 20) q3, z_wi_B (by decide : B 0 0 0) (by decide : B 3600 3600 3600) q1⟩
        · rw [if_neg q4] at e; exact absurd (by decide) e
theorem k_add_no {h : Hp} {m : Nat} {n d s q : Int32} (hw : B (h 4 7) 0 12) (e : zA (h 4 7) n d s < 0) : k_add h m n d s q = h := by
  unfold k_add
  by_cases q1 : z_wi n 0 3600 = 0
  · rw [if_pos q1]
  · by_cases q2 : z_wi d 1 9 = 0
    · rw [if_neg q1, if_pos q2]
    · by_cases q3 : z_wi s 0 20 = 0
      · rw [if_neg q1, if_neg q2, if_pos q3]
      · by_cases q4 : h 4 7 < 12
        · exact absurd e (zA_nn hw q1 q2 q3 q4)
        · rw [if_neg q1, if_neg q2, if_neg q3, if_neg q4]
theorem kmWh_ok {h : Hp} {n d s : Int32} (q : Int32) (hw : B (h 63 5) 0 12) (e : ¬ zA (h 63 5) n d s < 0) : kmWh h n d s q = ev_set (ev_set (ev_set (ev_set (ev_set (ev_set (ev_set (ev_set h 64 (h 63 5).toNatClampNeg n) 65 (h 63 5).toNatClampNeg d) 66 (h 63 5).toNatClampNeg s) 67 (h 63 5).toNatClampNeg q) 68 (h 63 5).toNatClampNeg 0) 69 (h 63 5).toNatClampNeg 0) 70 (h 63 5).toNatClampNeg 0) 63 5 (h 63 5 + 1) ∧ h 63 5 < 12 := by
  unfold zA at e
  unfold kmWh
  by_cases q1 : z_wi n 0 3600 = 0
  · rw [if_pos q1] at e; exact absurd (by decide) e
  · rw [if_neg q1] at e
    by_cases q2 : z_wi d 1 9 = 0
    · rw [if_pos q2] at e; exact absurd (by decide) e
    · rw [if_neg q2] at e
      by_cases q3 : z_wi s 0 20 = 0
      · rw [if_pos q3] at e; exact absurd (by decide) e
      · rw [if_neg q3] at e
        by_cases q4 : h 63 5 < 12
        · rw [if_neg q1, if_neg q2, if_neg q3, if_neg (fun z => by rw [z] at q4; exact absurd q4 (by decide))]
          exact ⟨rfl, q4⟩
        · rw [if_neg q4] at e; exact absurd (by decide) e
theorem kmWh_no {h : Hp} {n d s q : Int32} (hw : B (h 63 5) 0 12) (e : zA (h 63 5) n d s < 0) : kmWh h n d s q = h := by
  unfold kmWh
  by_cases q1 : z_wi n 0 3600 = 0
  · rw [if_pos q1]
  · by_cases q2 : z_wi d 1 9 = 0
    · rw [if_neg q1, if_pos q2]
    · by_cases q3 : z_wi s 0 20 = 0
      · rw [if_neg q1, if_neg q2, if_pos q3]
      · by_cases q4 : h 63 5 < 12
        · exact absurd e (zA_nn hw q1 q2 q3 q4)
        · have q5 : h 63 5 = 12 := by
            have z := w_nlt q4
            have e2 : (12 : Int32).toInt = 12 := by decide
            have h1 := hw.2
            exact Int32.toInt_inj.mp (by omega)
          rw [if_neg q1, if_neg q2, if_neg q3, if_pos q5]
theorem add_AO {h X : Hp} {n0 m : Nat} {n d s q : Int32} (hO : AO h X n0) (hm : n0 ≤ m) (hw : B (X 4 7) 0 12) : AO h (k_add X m n d s q) n0 := by
  by_cases e : zA (X 4 7) n d s < 0
  · rw [k_add_no hw e]; exact hO
  · rw [(k_add_ok q hw e).1]
    intro w hw1 a a1 a2
    rw [ev_rd2 (by omega)]
    rcases (show a = 5 ∨ a = 6 ∨ a = 7 ∨ a = 8 by omega) with rfl | rfl | rfl | rfl
    · rw [ev_rd2 (by decide), ev_rd2 (by decide), ev_rd2 (by decide), ev_rd3 (by omega)]; exact hO w hw1 5 a1 a2
    · rw [ev_rd2 (by decide), ev_rd2 (by decide), ev_rd3 (by omega), ev_rd2 (by decide)]; exact hO w hw1 6 a1 a2
    · rw [ev_rd2 (by decide), ev_rd3 (by omega), ev_rd2 (by decide), ev_rd2 (by decide)]; exact hO w hw1 7 a1 a2
    · rw [ev_rd3 (by omega), ev_rd2 (by decide), ev_rd2 (by decide), ev_rd2 (by decide)]; exact hO w hw1 8 a1 a2
theorem kO_AO {h X : Hp} {c : Nat → Int32} {s a : Int32} {n0 : Nat} (hO : AO h X n0) (hm : n0 ≤ (X 4 7).toNatClampNeg) (hw : B (X 4 7) 0 12) : AO h (kO X c s a) n0 := by
  unfold kO
  split
  · exact add_AO hO hm hw
  · exact hO
theorem wh_AO {h X : Hp} {n0 : Nat} {n d s q : Int32} (hO : AOm h X n0) (hm : n0 ≤ (X 63 5).toNatClampNeg) (hw : B (X 63 5) 0 12) : AOm h (kmWh X n d s q) n0 := by
  by_cases e : zA (X 63 5) n d s < 0
  · rw [kmWh_no hw e]; exact hO
  · rw [(kmWh_ok q hw e).1]
    intro w hw1 a a1 a2
    rw [ev_rd2 (by omega)]
    have z := hO w hw1 a a1 a2
    rcases (show a = 64 ∨ a = 65 ∨ a = 66 ∨ a = 67 ∨ a = 68 ∨ a = 69 ∨ a = 70 by omega) with rfl | rfl | rfl | rfl | rfl | rfl | rfl
    · simp (disch := omega) only [ev_rd2, ev_rd3]; exact z
    · simp (disch := omega) only [ev_rd2, ev_rd3]; exact z
    · simp (disch := omega) only [ev_rd2, ev_rd3]; exact z
    · simp (disch := omega) only [ev_rd2, ev_rd3]; exact z
    · simp (disch := omega) only [ev_rd2, ev_rd3]; exact z
    · simp (disch := omega) only [ev_rd2, ev_rd3]; exact z
    · simp (disch := omega) only [ev_rd2, ev_rd3]; exact z
theorem oC_in {c : Nat → Int32} {s a w : Int32} (hw : B w 0 12) (h : ¬ oC c s a w < 0) : (0 ≤ a.toInt ∧ a.toInt + 4 ≤ s.toInt) ∧ ¬ zA w (c a.toNatClampNeg) (c (a.toNatClampNeg + 1)) (c (a.toNatClampNeg + 2)) < 0 := by
  by_cases q : 0 ≤ a.toInt ∧ a.toInt + 4 ≤ s.toInt
  · refine ⟨q, fun q2 => h ?_⟩
    unfold oC
    rw [if_pos q, if_pos q2]
    exact zA_m20 hw q2
  · exfalso
    apply h
    unfold oC
    rw [if_neg q]
    decide
theorem in_60 {a s : Int32} (hs : B s (-1) 60) (q : 0 ≤ a.toInt ∧ a.toInt + 4 ≤ s.toInt) : a.toNatClampNeg + 4 ≤ 60 := by
  have h1 := hs.2
  have p : B a 0 ((56 : Nat) : Int) := ⟨by omega, by omega⟩
  have := (B.nI p).2
  omega
/-- a row taken, the class -/
theorem an_add {c : Nat → Int32} {s f : Int32} {X : Hp} {n0 i : Nat} (hA : AN c f X n0 i) (hw : B (X 4 7) 0 12) (hs : B s (-1) 60) (e : X 4 7 = nI (n0 + i)) (e12 : n0 + i ≤ 12) (h : ¬ oC c s (f + 4 * nI i) (X 4 7) < 0) : AN c f (kO X c s (f + 4 * nI i)) n0 (i + 1) ∧ kO X c s (f + 4 * nI i) 4 7 = nI (n0 + (i + 1)) := by
  obtain ⟨q, q2⟩ := oC_in hw h
  have em : (X 4 7).toNatClampNeg = n0 + i := by
    rw [e]; exact nI_clamp (by omega)
  unfold kO
  rw [if_pos q, em]
  obtain ⟨a1, a2, a3⟩ := k_add_ok (m := n0 + i) (z_01 (c ((f + 4 * nI i).toNatClampNeg + 3))) hw q2
  rw [a1]
  refine ⟨fun u hu => ?_, ?_⟩
  · by_cases y : u = i
    · subst y
      refine ⟨in_60 hs q, ?_, ?_, ?_, ?_, ?_⟩
      · simp (disch := omega) only [ev_rd1, ev_rd2, ev_rd3]; rfl
      · simp (disch := omega) only [ev_rd1, ev_rd2, ev_rd3]; rfl
      · simp (disch := omega) only [ev_rd1, ev_rd2, ev_rd3]; rfl
      · simp (disch := omega) only [ev_rd1, ev_rd2, ev_rd3]; rfl
      · simp (disch := omega) only [ev_rd1, ev_rd2, ev_rd3]; exact a3
    · have z := hA u (by omega)
      simp (disch := omega) only [ev_rd1, ev_rd2, ev_rd3]
      exact z
  · rw [ev_rd1, e, nI_1]
    rfl
theorem anm_add {c : Nat → Int32} {f : Int32} {X : Hp} {n0 i x : Nat} (hA : ANm c f X n0 i) (hw : B (X 63 5) 0 12) (hx : x = ixS f i) (e : X 63 5 = nI (n0 + i)) (e12 : n0 + i ≤ 12) (q2 : ¬ zA (X 63 5) (c x) (c (x + 1)) (c (x + 2)) < 0) {qq : Int32} (eq : qq = z_01 (c (x + 3))) : ANm c f (kmWh X (c x) (c (x + 1)) (c (x + 2)) qq) n0 (i + 1) ∧ kmWh X (c x) (c (x + 1)) (c (x + 2)) qq 63 5 = nI (n0 + (i + 1)) := by
  subst hx
  subst eq
  have em : (X 63 5).toNatClampNeg = n0 + i := by rw [e]; exact nI_clamp (by omega)
  rw [(kmWh_ok _ hw q2).1, em]
  refine ⟨fun u hu => ?_, ?_⟩
  · by_cases y : u = i
    · subst y
      simp (disch := omega) only [ev_rd1, ev_rd2, ev_rd3]
      exact ⟨trivial, trivial, trivial, trivial, trivial, trivial, trivial⟩
    · have z := hA u (by omega)
      simp (disch := omega) only [ev_rd1, ev_rd2, ev_rd3]
      exact z
  · rw [ev_rd1, e, nI_1]
    rfl
theorem AN.z {c : Nat → Int32} {f : Int32} {z : Hp} {n0 : Nat} (h12 : n0 ≤ 12) (e : z 4 7 = nI n0) : AN c f z n0 ((z 4 7).toNatClampNeg - n0) := by
  rw [e, nI_clamp (by omega), Nat.sub_self]
  exact fun u hu => absurd hu (Nat.not_lt_zero _)
theorem ANm.z {c : Nat → Int32} {f : Int32} {z : Hp} {n0 : Nat} (h12 : n0 ≤ 12) (e : z 63 5 = nI n0) : ANm c f z n0 ((z 63 5).toNatClampNeg - n0) := by
  rw [e, nI_clamp (by omega), Nat.sub_self]
  exact fun u hu => absurd hu (Nat.not_lt_zero _)
theorem w_addY (L : Nat) (b : Bool) (h : Hp) (hB : Bx h) (n d s q : Int32) (hq : q = 0 ∨ q = 1) : EvI mi_X8_add [.ref 4, .int n, .int d, .int s, .int q] (G0 L b) h (fun r z => r = zA (h 4 7) n d s ∧ z 4 7 = nA (h 4 7) n d s ∧ z = k_add h (h 4 7).toNatClampNeg n d s q) [(4, 7), (5, 999), (6, 999), (7, 999), (8, 999)] := EvM.mono (c_add L b h _ (B.nI (u := 12) (hB 4 7)).2 (B.nI (u := 12) (hB 4 7)).1 n d s q hq) (fun v G' h' z => by
  obtain ⟨rfl, rfl, rfl⟩ := z
  exact ⟨⟨_, rfl, rfl, (jw_add hB _ n d s q).2, rfl⟩, rfl, (jw_add hB _ n d s q).1⟩)
theorem w_whistleY (L : Nat) (b : Bool) (h : Hp) (hB : Bx h) (n d s q : Int32) (hq : q = 0 ∨ q = 1) : EvI mi_X9_whistle [.ref 1, .int n, .int d, .int s, .int q] (G0 L b) h (fun r z => r = zA (h 4 7) n d s ∧ z = k_add h (h 4 7).toNatClampNeg n d s q) [(4, 7), (5, 999), (6, 999), (7, 999), (8, 999)] := EvM.mono (x_whistle L b h _ (B.nI (u := 12) (hB 4 7)).2 (B.nI (u := 12) (hB 4 7)).1 n d s q hq) (fun v G' h' z => by
  obtain ⟨rfl, rfl, rfl⟩ := z
  exact ⟨⟨_, rfl, rfl, rfl⟩, rfl, (jw_add hB _ n d s q).1⟩)
theorem w_mwhY (L : Nat) (b : Bool) (h : Hp) (hB : Bx h) (n d s q : Int32) (hq : q = 0 ∨ q = 1) : EvI mi_X10_whistle [.ref 63, .int n, .int d, .int s, .int q] (G0 L b) h (fun r z => r = zA (h 63 5) n d s ∧ z = kmWh h n d s q) [(63, 5), (64, 999), (65, 999), (66, 999), (67, 999), (68, 999), (69, 999), (70, 999)] := EvM.mono (c_mwh L b h hB n d s q hq) (fun v G' h' z => by
  obtain ⟨rfl, rfl, rfl⟩ := z
  exact ⟨⟨_, rfl, rmWh_eq (hB 63 5) n d s, rfl⟩, rfl, (jw_mwh hB n d s q).1⟩)
theorem kO_eq {h : Hp} {c : Nat → Int32} {s a q : Int32} {x : Nat} (hok : 0 ≤ a.toInt ∧ a.toInt + 4 ≤ s.toInt) (ex : a.toNatClampNeg = x) (hq : z_01 (c (x + 3)) = q) : kO h c s a = k_add h (h 4 7).toNatClampNeg (c x) (c (x + 1)) (c (x + 2)) q := by
  subst ex
  subst hq
  unfold kO
  rw [if_pos hok]
theorem z01p {u : Int32} (h : u = 0) : z_01 u = 0 := if_pos h
theorem z01n {u : Int32} (h : ¬ u = 0) : z_01 u = 1 := if_neg h

set_option maxRecDepth 100000 in
set_option maxHeartbeats 4000000 in
theorem w_scanOneY (L : Nat) (b : Bool) (h : Hp) (hB : Bx h) (k : Nat) (hk : k < 4) (a : Int32) : EvI mi_X9_scanOne [.ref 1, .int (nI k), .int a] (G0 L b) h (fun r z => r = oC (h (57 + k)) (h 62 k) a (h 4 7) ∧ z 4 7 = oN (h (57 + k)) (h 62 k) a (h 4 7) ∧ z = kO h (h (57 + k)) (h 62 k) a) [(4, 7), (5, 999), (6, 999), (7, 999), (8, 999)] := by
  refine EvM.of2 (lo := [some (.ref 1), some (.int (nI k)), some (.int a), none, none]) pf_X9_scanOne ok_X9_scanOne rfl rfl ?_
  refine ev_iconst (v := 0) rfl rfl (by decide) ?_
  refine ev_istore_n rfl rfl rfl rfl ?_
  dsimp only [List.set]
  refine ev_iload_n rfl rfl rfl ?_
  refine ev_iconst (v := 4) rfl rfl (by decide) ?_
  refine ev_icmp_ge rfl rfl (fun z_ => absurd z_ (by decide)) (fun c_4 => ?_)
  refine ev_aload_n rfl rfl rfl ?_
  refine ev_getR rfl rfl fl_X9_71 rfl rfl rfl rfl ?_
  refine ev_iload_n rfl rfl rfl ?_
  refine ev_iload_n rfl rfl rfl ?_
  refine ev_iload_n rfl rfl rfl ?_
  refine ev_iadd rfl rfl ?_
  refine ev_V2D rfl rfl lk_X9_325 vt_X5_hasCell rfl rfl rfl rfl rfl (c_hasCell _ _ _ k hk _) ?_
  refine ev_if_ne rfl rfl (fun c_18 => ?_) (fun c_18 => ?_)
  · refine ev_iinc (y := 1) rfl rfl rfl (by decide) rfl rfl ?_
    dsimp only [List.set]
    refine ev_goto rfl rfl ?_
    refine ev_iload_n rfl rfl rfl ?_
    refine ev_iconst (v := 4) rfl rfl (by decide) ?_
    refine ev_icmp_ge rfl rfl (fun z_ => absurd z_ (by decide)) (fun c_4b => ?_)
    refine ev_aload_n rfl rfl rfl ?_
    refine ev_getR rfl rfl fl_X9_71 rfl rfl rfl rfl ?_
    refine ev_iload_n rfl rfl rfl ?_
    refine ev_iload_n rfl rfl rfl ?_
    refine ev_iload_n rfl rfl rfl ?_
    refine ev_iadd rfl rfl ?_
    refine ev_V2D rfl rfl lk_X9_325 vt_X5_hasCell rfl rfl rfl rfl rfl (c_hasCell _ _ _ k hk _) ?_
    refine ev_if_ne rfl rfl (fun c_18b => ?_) (fun c_18b => ?_)
    · refine ev_iinc (y := 1) rfl rfl rfl (by decide) rfl rfl ?_
      dsimp only [List.set]
      refine ev_goto rfl rfl ?_
      refine ev_iload_n rfl rfl rfl ?_
      refine ev_iconst (v := 4) rfl rfl (by decide) ?_
      refine ev_icmp_ge rfl rfl (fun z_ => absurd z_ (by decide)) (fun c_4bb => ?_)
      refine ev_aload_n rfl rfl rfl ?_
      refine ev_getR rfl rfl fl_X9_71 rfl rfl rfl rfl ?_
      refine ev_iload_n rfl rfl rfl ?_
      refine ev_iload_n rfl rfl rfl ?_
      refine ev_iload_n rfl rfl rfl ?_
      refine ev_iadd rfl rfl ?_
      refine ev_V2D rfl rfl lk_X9_325 vt_X5_hasCell rfl rfl rfl rfl rfl (c_hasCell _ _ _ k hk _) ?_
      refine ev_if_ne rfl rfl (fun c_18bb => ?_) (fun c_18bb => ?_)
      · refine ev_iinc (y := 1) rfl rfl rfl (by decide) rfl rfl ?_
        dsimp only [List.set]
        refine ev_goto rfl rfl ?_
        refine ev_iload_n rfl rfl rfl ?_
        refine ev_iconst (v := 4) rfl rfl (by decide) ?_
        refine ev_icmp_ge rfl rfl (fun z_ => absurd z_ (by decide)) (fun c_4bbb => ?_)
        refine ev_aload_n rfl rfl rfl ?_
        refine ev_getR rfl rfl fl_X9_71 rfl rfl rfl rfl ?_
        refine ev_iload_n rfl rfl rfl ?_
        refine ev_iload_n rfl rfl rfl ?_
        refine ev_iload_n rfl rfl rfl ?_
        refine ev_iadd rfl rfl ?_
        refine ev_V2D rfl rfl lk_X9_325 vt_X5_hasCell rfl rfl rfl rfl rfl (c_hasCell _ _ _ k hk _) ?_
        refine ev_if_ne rfl rfl (fun c_18bbb => ?_) (fun c_18bbb => ?_)
        · refine ev_iinc (y := 1) rfl rfl rfl (by decide) rfl rfl ?_
          dsimp only [List.set]
          refine ev_goto rfl rfl ?_
          refine ev_iload_n rfl rfl rfl ?_
          refine ev_iconst (v := 4) rfl rfl (by decide) ?_
          refine ev_icmp_ge rfl rfl (fun c_4bbbb => ?_) (fun z_ => absurd (by decide) z_)
          obtain ⟨x, hx, rfl, hok⟩ := c4_ok (hB 62 k) c_18 c_18bbb (by decide)
          have ex := nI_clamp (show x < 2 ^ 31 by omega)
          refine ev_aload_n rfl rfl rfl ?_
          refine ev_getR rfl rfl fl_X9_71 rfl rfl rfl rfl ?_
          refine ev_getR rfl rfl fl_X9_362 rfl rfl rfl rfl ?_
          refine ev_iload_n rfl rfl rfl ?_
          refine ev_aald (y := 57 + k) (j := k) rfl rfl rfl rfl (vp_in_nI (by omega) (by decide)) (nI_clamp (by omega)) (g_sht L b hk).1 ?_
          refine ev_astore_n rfl rfl rfl rfl ?_
          dsimp only [List.set]
          refine ev_aload_n rfl rfl rfl ?_
          refine ev_getR rfl rfl fl_X9_22 rfl rfl rfl rfl ?_
          refine ev_aload_n rfl rfl rfl ?_
          refine ev_iload_n rfl rfl rfl ?_
          refine ev_iald (j := x) rfl rfl (g_sht L b hk).2 (vp_in_nI (by omega) (by decide)) (nI_clamp (by omega)) ?_
          refine ev_aload_n rfl rfl rfl ?_
          refine ev_iload_n rfl rfl rfl ?_
          refine ev_iconst (v := 1) rfl rfl (by decide) ?_
          refine ev_iadd rfl rfl ?_
          refine ev_iald (j := x + 1) rfl rfl (g_sht L b hk).2 (by rw [show nI x + 1 = nI (x + 1) from nI_add x 1]; exact vp_in_nI (by omega) (by decide)) (by rw [show nI x + 1 = nI (x + 1) from nI_add x 1]; exact nI_clamp (by omega)) ?_
          refine ev_aload_n rfl rfl rfl ?_
          refine ev_iload_n rfl rfl rfl ?_
          refine ev_iconst (v := 2) rfl rfl (by decide) ?_
          refine ev_iadd rfl rfl ?_
          refine ev_iald (j := x + 2) rfl rfl (g_sht L b hk).2 (by rw [show nI x + 2 = nI (x + 2) from nI_add x 2]; exact vp_in_nI (by omega) (by decide)) (by rw [show nI x + 2 = nI (x + 2) from nI_add x 2]; exact nI_clamp (by omega)) ?_
          refine ev_aload_n rfl rfl rfl ?_
          refine ev_iload_n rfl rfl rfl ?_
          refine ev_iconst (v := 3) rfl rfl (by decide) ?_
          refine ev_iadd rfl rfl ?_
          refine ev_iald (j := x + 3) rfl rfl (g_sht L b hk).2 (by rw [show nI x + 3 = nI (x + 3) from nI_add x 3]; exact vp_in_nI (by omega) (by decide)) (by rw [show nI x + 3 = nI (x + 3) from nI_add x 3]; exact nI_clamp (by omega)) ?_
          refine ev_if_eq rfl rfl (fun c_62 => ?_) (fun c_62 => ?_)
          · refine ev_iconst (v := 0) rfl rfl (by decide) ?_
            refine ev_V4I (JW.refl (W := [(4, 7), (5, 999), (6, 999), (7, 999), (8, 999)]) hB) rfl rfl rfl lk_X9_122 vt_X8_add rfl rfl rfl rfl rfl (w_addY L b h hB _ _ _ _ (by decide)) (fun r1 h1 q1 j1 k1 => ?_)
            refine ev_istore rfl rfl rfl rfl ?_
            dsimp only [List.set]
            refine ev_iload rfl rfl rfl ?_
            refine ev_if_ge rfl rfl (fun c_77 => ?_) (fun c_77 => ?_)
            · refine ev_aload_n rfl rfl rfl ?_
              refine ev_getR rfl rfl fl_X9_22 rfl rfl rfl rfl ?_
              refine ev_getI rfl rfl fl_X9_158 rfl rfl rfl ?_
              exact ev_iret rfl rfl rfl (⟨⟨_, rfl, q1.2.1.trans (oC_nn hok ex q1.1 c_77).symm, q1.2.1.trans (oN_ok hok ex).symm, q1.2.2.trans (kO_eq hok ex (z01p c_62)).symm⟩, rfl, k1⟩)
            · refine ev_bipush (v := (-20)) rfl rfl (by decide) ?_
              refine ev_iload rfl rfl rfl ?_
              refine ev_iadd rfl rfl ?_
              refine ev_goto rfl rfl ?_
              exact ev_iret rfl rfl rfl (⟨⟨_, rfl, oC_neg hok ex q1.1 c_77, q1.2.1.trans (oN_ok hok ex).symm, q1.2.2.trans (kO_eq hok ex (z01p c_62)).symm⟩, rfl, k1⟩)
          · refine ev_iconst (v := 1) rfl rfl (by decide) ?_
            refine ev_goto rfl rfl ?_
            refine ev_V4I (JW.refl (W := [(4, 7), (5, 999), (6, 999), (7, 999), (8, 999)]) hB) rfl rfl rfl lk_X9_122 vt_X8_add rfl rfl rfl rfl rfl (w_addY L b h hB _ _ _ _ (by decide)) (fun r1 h1 q1 j1 k1 => ?_)
            refine ev_istore rfl rfl rfl rfl ?_
            dsimp only [List.set]
            refine ev_iload rfl rfl rfl ?_
            refine ev_if_ge rfl rfl (fun c_77 => ?_) (fun c_77 => ?_)
            · refine ev_aload_n rfl rfl rfl ?_
              refine ev_getR rfl rfl fl_X9_22 rfl rfl rfl rfl ?_
              refine ev_getI rfl rfl fl_X9_158 rfl rfl rfl ?_
              exact ev_iret rfl rfl rfl (⟨⟨_, rfl, q1.2.1.trans (oC_nn hok ex q1.1 c_77).symm, q1.2.1.trans (oN_ok hok ex).symm, q1.2.2.trans (kO_eq hok ex (z01n c_62)).symm⟩, rfl, k1⟩)
            · refine ev_bipush (v := (-20)) rfl rfl (by decide) ?_
              refine ev_iload rfl rfl rfl ?_
              refine ev_iadd rfl rfl ?_
              refine ev_goto rfl rfl ?_
              exact ev_iret rfl rfl rfl (⟨⟨_, rfl, oC_neg hok ex q1.1 c_77, q1.2.1.trans (oN_ok hok ex).symm, q1.2.2.trans (kO_eq hok ex (z01n c_62)).symm⟩, rfl, k1⟩)
        · refine ev_bipush (v := (-12)) rfl rfl (by decide) ?_
          exact ev_iret rfl rfl rfl (⟨⟨_, rfl, by unfold oC; rw [if_neg (c4_no (hB 62 k) c_18bbb (by decide))], by unfold oN; rw [if_neg (c4_no (hB 62 k) c_18bbb (by decide))], by unfold kO; rw [if_neg (c4_no (hB 62 k) c_18bbb (by decide))]⟩, rfl, JW.refl hB⟩)
      · refine ev_bipush (v := (-12)) rfl rfl (by decide) ?_
        exact ev_iret rfl rfl rfl (⟨⟨_, rfl, by unfold oC; rw [if_neg (c4_no (hB 62 k) c_18bb (by decide))], by unfold oN; rw [if_neg (c4_no (hB 62 k) c_18bb (by decide))], by unfold kO; rw [if_neg (c4_no (hB 62 k) c_18bb (by decide))]⟩, rfl, JW.refl hB⟩)
    · refine ev_bipush (v := (-12)) rfl rfl (by decide) ?_
      exact ev_iret rfl rfl rfl (⟨⟨_, rfl, by unfold oC; rw [if_neg (c4_no (hB 62 k) c_18b (by decide))], by unfold oN; rw [if_neg (c4_no (hB 62 k) c_18b (by decide))], by unfold kO; rw [if_neg (c4_no (hB 62 k) c_18b (by decide))]⟩, rfl, JW.refl hB⟩)
  · refine ev_bipush (v := (-12)) rfl rfl (by decide) ?_
    exact ev_iret rfl rfl rfl (⟨⟨_, rfl, by unfold oC; rw [if_neg (c4_no (hB 62 k) c_18 (by decide))], by unfold oN; rw [if_neg (c4_no (hB 62 k) c_18 (by decide))], by unfold kO; rw [if_neg (c4_no (hB 62 k) c_18 (by decide))]⟩, rfl, JW.refl hB⟩)

set_option maxRecDepth 100000 in
set_option maxHeartbeats 4000000 in
theorem l_scanNY (L : Nat) (b : Bool) (h h1 : Hp) (hJ : JW [(4, 7), (5, 999), (6, 999), (7, 999), (8, 999)] h h1) (c : Nat → Int32) (k l f n u : Int32) (n0 : Nat) (v ii : Int32) (h12 : n0 ≤ 12) (hO : AO h h1 n0) (hv : v < 0) : EvQ mi_X9_scan 73 [some (.ref 1), some (.int k), some (.int l), some (.int f), some (.int n), some (.int u), some (.int (nI n0)), some (.int v), some (.int ii)] [] (G0 L b) h1 0 0 (QI (fun r z => r = v ∧ z 4 7 = nI n0 ∧ AO h z n0 ∧ AN c f z n0 ((z 4 7).toNatClampNeg - n0)) [(4, 7), (5, 999), (6, 999), (7, 999), (8, 999)] (G0 L b) h) := by
  refine ev_iload rfl rfl rfl ?_
  refine ev_iload rfl rfl rfl ?_
  refine ev_icmp_ge rfl rfl (fun c_77 => ?_) (fun c_77 => ?_)
  · refine ev_iload rfl rfl rfl ?_
    refine ev_if_ge rfl rfl (fun z_ => absurd z_ (Int32.not_le.mpr hv)) (fun c_106 => ?_)
    refine ev_aload_n rfl rfl rfl ?_
    refine ev_getR rfl rfl fl_X9_22 rfl rfl rfl rfl ?_
    refine ev_iload rfl rfl rfl ?_
    refine ev_putI rfl rfl fl_X9_158 rfl rfl rfl rfl rfl ?_
    refine ev_iload rfl rfl rfl ?_
    exact ev_iret rfl rfl rfl (⟨⟨_, rfl, rfl, ev_rd1 _ _ _ _, fun w hw a a1 a2 => by rw [ev_rd2 (by omega)]; exact hO w hw a a1 a2, AN.z h12 (ev_rd1 _ _ _ _)⟩, rfl, hJ.set rfl (show B (nI n0) 0 12 from nI_B (by omega) (by omega))⟩)
  · refine ev_iload rfl rfl rfl ?_
    refine ev_if_lt rfl rfl (fun c_82 => ?_) (fun z_ => absurd hv z_)
    refine ev_iload rfl rfl rfl ?_
    refine ev_if_ge rfl rfl (fun z_ => absurd z_ (Int32.not_le.mpr hv)) (fun c_106 => ?_)
    refine ev_aload_n rfl rfl rfl ?_
    refine ev_getR rfl rfl fl_X9_22 rfl rfl rfl rfl ?_
    refine ev_iload rfl rfl rfl ?_
    refine ev_putI rfl rfl fl_X9_158 rfl rfl rfl rfl rfl ?_
    refine ev_iload rfl rfl rfl ?_
    exact ev_iret rfl rfl rfl (⟨⟨_, rfl, rfl, ev_rd1 _ _ _ _, fun w hw a a1 a2 => by rw [ev_rd2 (by omega)]; exact hO w hw a a1 a2, AN.z h12 (ev_rd1 _ _ _ _)⟩, rfl, hJ.set rfl (show B (nI n0) 0 12 from nI_B (by omega) (by omega))⟩)

set_option maxRecDepth 100000 in
set_option maxHeartbeats 4000000 in
theorem l_scanY (L : Nat) (b : Bool) (h : Hp) (hB : Bx h) (k : Nat) (hk : k < 4) (l f u : Int32) (n0 : Nat) (h12 : n0 ≤ 12) (n : Nat) (hn : n ≤ 12) : ∀ (t i : Nat) (h1 : Hp) (w : Int32), i + t = n → JW [(4, 7), (5, 999), (6, 999), (7, 999), (8, 999)] h h1 → h1 4 7 = w → w = nI (n0 + i) → AO h h1 n0 → AN (h (57 + k)) f h1 n0 i → EvQ mi_X9_scan 73 [some (.ref 1), some (.int (nI k)), some (.int l), some (.int f), some (.int (nI n)), some (.int u), some (.int (nI n0)), some (.int w), some (.int (nI i))] [] (G0 L b) h1 0 0 (QI (fun r z => r = sc (h (57 + k)) (h 62 k) f t i w ∧ z 4 7 = (if sc (h (57 + k)) (h 62 k) f t i w < 0 then nI n0 else sc (h (57 + k)) (h 62 k) f t i w) ∧ AO h z n0 ∧ AN (h (57 + k)) f z n0 ((z 4 7).toNatClampNeg - n0)) [(4, 7), (5, 999), (6, 999), (7, 999), (8, 999)] (G0 L b) h) := by
  intro t
  induction t with
  | zero =>
    intro i h1 w hi hJ hw hwi hO hN
    have bw : B w 0 12 := by rw [← hw]; exact hJ.1 4 7
    have hwn : ¬ w < 0 := D_nlt bw (by decide : B 0 0 0) (by decide)
    have fr : h1 (57 + k) = h (57 + k) := funext (fun j => hJ.2 (57 + k) j (wmC hk j))
    have fs : h1 62 k = h 62 k := hJ.2 62 k rfl
    have l24 : n0 + i ≤ 12 := by
      have z := bw.2
      rw [hwi, nI_toInt (by omega)] at z
      omega
    have hi2 : i = n := by omega
    subst hi2
    refine ev_iload rfl rfl rfl ?_
    refine ev_iload rfl rfl rfl ?_
    refine ev_icmp_ge rfl rfl (fun c_77 => ?_) (fun z_ => absurd (Int32.le_refl _) z_)
    refine ev_iload rfl rfl rfl ?_
    refine ev_if_ge rfl rfl (fun c_106 => ?_) (fun z_ => absurd (Int32.not_lt.mp hwn) z_)
    refine ev_iload rfl rfl rfl ?_
    exact ev_iret rfl rfl rfl (⟨⟨_, rfl, rfl, by show h1 4 7 = if w < 0 then nI n0 else w; rw [if_neg hwn]; exact hw, hO, by rw [hw, hwi, nI_clamp (by omega), Nat.add_sub_cancel_left]; exact hN⟩, rfl, hJ⟩)
  | succ t ih =>
    intro i h1 w hi hJ hw hwi hO hN
    have bw : B w 0 12 := by rw [← hw]; exact hJ.1 4 7
    have hwn : ¬ w < 0 := D_nlt bw (by decide : B 0 0 0) (by decide)
    have fr : h1 (57 + k) = h (57 + k) := funext (fun j => hJ.2 (57 + k) j (wmC hk j))
    have fs : h1 62 k = h 62 k := hJ.2 62 k rfl
    have l24 : n0 + i ≤ 12 := by
      have z := bw.2
      rw [hwi, nI_toInt (by omega)] at z
      omega
    refine ev_iload rfl rfl rfl ?_
    refine ev_iload rfl rfl rfl ?_
    refine ev_icmp_ge rfl rfl (fun z_ => absurd z_ (show ¬ nI n ≤ nI i from nI_ge (by omega) (by omega))) (fun c_77 => ?_)
    refine ev_iload rfl rfl rfl ?_
    refine ev_if_lt rfl rfl (fun z_ => absurd z_ hwn) (fun c_82 => ?_)
    refine ev_aload_n rfl rfl rfl ?_
    refine ev_iload_n rfl rfl rfl ?_
    refine ev_iload_n rfl rfl rfl ?_
    refine ev_iconst (v := 4) rfl rfl (by decide) ?_
    refine ev_iload rfl rfl rfl ?_
    refine ev_imul rfl rfl ?_
    refine ev_iadd rfl rfl ?_
    refine ev_V2I hJ rfl rfl rfl lk_X9_332 vt_X9_scanOne rfl rfl rfl rfl rfl (w_scanOneY L b h1 hJ.1 k hk (f + 4 * nI i)) (fun r1 h2 q1 j1 k1 => ?_)
    obtain ⟨e1, e2, e0⟩ := q1
    rw [fr, fs, hw] at e1 e2
    rw [fr, fs] at e0
    refine ev_istore rfl rfl rfl rfl ?_
    dsimp only [List.set]
    refine ev_iinc (y := 1) rfl rfl rfl (by decide) rfl rfl ?_
    dsimp only [List.set]
    refine ev_goto rfl rfl ?_
    rw [nI_1 i]
    have hA2 : AO h h2 n0 := by rw [e0]; exact kO_AO hO (by rw [hw, hwi, nI_clamp (by omega)]; omega) (hJ.1 4 7)
    by_cases c_ : r1 < 0
    · refine EvQ.mono (l_scanNY L b h h2 j1 (h (57 + k)) _ _ _ _ _ _ _ _ h12 hA2 c_) (Nat.le_refl _) (Nat.le_refl _) (fun v G' h' z => ?_)
      obtain ⟨⟨r, ev, er, ez, eo, en⟩, eg, ej⟩ := z
      exact ⟨⟨r, ev, er.trans (sc_neg e1 c_), ez.trans (sc_negN e1 c_), eo, en⟩, eg, ej⟩
    · have e3 : ¬ oC (h (57 + k)) (h 62 k) (f + 4 * nI i) w < 0 := by rw [← e1]; exact c_
      have e4 := oC_oN bw e3
      have an := an_add hN (hJ.1 4 7) (hB 62 k) (hw.trans hwi) (by omega) (by rw [hw]; exact e3)
      rw [← e0] at an
      have er1 : h2 4 7 = r1 := by rw [e2, e1, e4]
      have z_ := ih (i + 1) h2 r1 (by omega) j1 er1 (er1.symm.trans an.2) hA2 an.1
      rw [show r1 = oN (h (57 + k)) (h 62 k) (f + 4 * nI i) w from e1.trans e4] at z_ ⊢
      rw [sc_s e3] at z_
      exact z_

def PSc (c : Nat → Int32) (f : Int32) (h z : Hp) : Prop := AO h z (h 4 7).toNatClampNeg ∧ AN c f z (h 4 7).toNatClampNeg ((z 4 7).toNatClampNeg - (h 4 7).toNatClampNeg)
theorem PSc.refl (c : Nat → Int32) (f : Int32) (h : Hp) : PSc c f h h := ⟨fun _ _ _ _ _ => rfl, by rw [Nat.sub_self]; exact fun u hu => absurd hu (Nat.not_lt_zero _)⟩
def PSm (c : Nat → Int32) (f : Int32) (h z : Hp) : Prop := AOm h z (h 63 5).toNatClampNeg ∧ ANm c f z (h 63 5).toNatClampNeg ((z 63 5).toNatClampNeg - (h 63 5).toNatClampNeg)
theorem PSm.refl (c : Nat → Int32) (f : Int32) (h : Hp) : PSm c f h h := ⟨fun _ _ _ _ _ => rfl, by rw [Nat.sub_self]; exact fun u hu => absurd hu (Nat.not_lt_zero _)⟩

set_option maxRecDepth 100000 in
set_option maxHeartbeats 4000000 in
theorem w_scanY (L : Nat) (b : Bool) (h : Hp) (hB : Bx h) (k l f n : Int32) : EvI mi_X9_scan [.ref 1, .int k, .int l, .int f, .int n] (G0 L b) h (fun r z => r = scRc h k l f n ∧ z 4 7 = scNc h k l f n ∧ PSc (h (57 + k.toNatClampNeg)) f h z) [(4, 7), (5, 999), (6, 999), (7, 999), (8, 999)] := by
  refine EvM.of2 (lo := [some (.ref 1), some (.int k), some (.int l), some (.int f), some (.int n), none, none, none, none]) pf_X9_scan ok_X9_scan rfl rfl ?_
  refine ev_aload_n rfl rfl rfl ?_
  refine ev_getR rfl rfl fl_X9_71 rfl rfl rfl rfl ?_
  refine ev_iload_n rfl rfl rfl ?_
  refine ev_V1D rfl rfl lk_X9_255 vt_X5_has rfl rfl rfl rfl rfl (c_X5_has _ _ _ _) ?_
  refine ev_if_eq rfl rfl (fun c_8 => ?_) (fun c_8 => ?_)
  · refine ev_iconst (v := (-1)) rfl rfl (by decide) ?_
    exact ev_iret rfl rfl rfl (⟨⟨_, rfl, by simp only [scRc, if_pos c_8], by simp only [scNc, if_pos c_8], PSc.refl _ _ _⟩, rfl, JW.refl hB⟩)
  · refine ev_aload_n rfl rfl rfl ?_
    refine ev_getR rfl rfl fl_X9_71 rfl rfl rfl rfl ?_
    refine ev_iload_n rfl rfl rfl ?_
    refine ev_V1D rfl rfl lk_X9_256 vt_X5_isLane rfl rfl rfl rfl rfl (c_isLane _ _ _ _) ?_
    refine ev_if_eq rfl rfl (fun c_19 => ?_) (fun c_19 => ?_)
    · refine ev_iconst (v := (-1)) rfl rfl (by decide) ?_
      exact ev_iret rfl rfl rfl (⟨⟨_, rfl, by simp only [scRc, if_neg c_8, if_pos c_19], by simp only [scNc, if_neg c_8, if_pos c_19], PSc.refl _ _ _⟩, rfl, JW.refl hB⟩)
    · refine ev_iload rfl rfl rfl ?_
      refine ev_iconst (v := 0) rfl rfl (by decide) ?_
      refine ev_bipush (v := 12) rfl rfl (by decide) ?_
      refine ev_S3D rfl rfl lk_X9_75 st_X9_isWithin rfl rfl (c_isWithin _ _ _ _ _) ?_
      refine ev_if_ne rfl rfl (fun c_30 => ?_) (fun c_30 => ?_)
      · obtain ⟨j, hj, rfl⟩ := z_hask (x := 4) (m := 4) (N := 4) rfl (Nat.le_refl _) (by decide) c_8
        have ej := nI_clamp (show j < 2 ^ 31 by omega)
        obtain ⟨m, hm, rfl⟩ : ∃ m : Nat, m ≤ 12 ∧ n = nI m := ⟨_, (B.nI (u := 12) (z_wi_B (by decide : B 0 0 0) (by decide : B 12 12 12) c_30)).2, (B.nI (u := 12) (z_wi_B (by decide : B 0 0 0) (by decide : B 12 12 12) c_30)).1⟩
        have em := nI_clamp (show m < 2 ^ 31 by omega)
        refine ev_aload_n rfl rfl rfl ?_
        refine ev_getR rfl rfl fl_X9_71 rfl rfl rfl rfl ?_
        refine ev_iload_n rfl rfl rfl ?_
        refine ev_iload_n rfl rfl rfl ?_
        refine ev_V2D rfl rfl lk_X9_259 vt_X5_faultAs rfl rfl rfl rfl rfl (c_faultAs _ _ _ j hj _) ?_
        refine ev_istore rfl rfl rfl rfl ?_
        dsimp only [List.set]
        refine ev_iload rfl rfl rfl ?_
        refine ev_if_eq rfl rfl (fun c_48 => ?_) (fun c_48 => ?_)
        · refine ev_aload_n rfl rfl rfl ?_
          refine ev_getR rfl rfl fl_X9_22 rfl rfl rfl rfl ?_
          refine ev_getI rfl rfl fl_X9_158 rfl rfl rfl ?_
          refine ev_istore rfl rfl rfl rfl ?_
          dsimp only [List.set]
          refine ev_iload rfl rfl rfl ?_
          refine ev_istore rfl rfl rfl rfl ?_
          dsimp only [List.set]
          refine ev_iconst (v := 0) rfl rfl (by decide) ?_
          refine ev_istore rfl rfl rfl rfl ?_
          dsimp only [List.set]
          have e47 : h 4 7 = nI (h 4 7).toNatClampNeg := (B.nI (u := 12) (hB 4 7)).1
          have z0 := l_scanY L b h hB j hj l f (z_fas (h 62 j) (h 61 j) l) (h 4 7).toNatClampNeg (B.nI (u := 12) (hB 4 7)).2 m hm m 0 h (h 4 7) (by omega) (JW.refl hB) rfl e47 (fun _ _ _ _ _ => rfl) (fun u hu => absurd hu (Nat.not_lt_zero _))
          rw [← e47] at z0
          refine EvQ.mono z0 (Nat.le_refl _) (Nat.le_refl _) (fun v G' h' z => ?_)
          obtain ⟨⟨r, ev, er, ez, eo, en⟩, eg, ej2⟩ := z
          exact ⟨⟨r, ev, er.trans (by simp only [scRc, if_neg c_8, if_neg c_19, if_neg c_30, if_pos c_48, ej, em]), ez.trans (by simp only [scNc, if_neg c_8, if_neg c_19, if_neg c_30, if_pos c_48, ej, em]), by rw [ej]; exact ⟨eo, en⟩⟩, eg, ej2⟩
        · refine ev_bipush (v := (-10)) rfl rfl (by decide) ?_
          refine ev_iload rfl rfl rfl ?_
          refine ev_isub rfl rfl ?_
          exact ev_iret rfl rfl rfl (⟨⟨_, rfl, by simp only [scRc, if_neg c_8, if_neg c_19, if_neg c_30, if_neg c_48, ej], by simp only [scNc, if_neg c_8, if_neg c_19, if_neg c_30, if_neg c_48, ej], PSc.refl _ _ _⟩, rfl, JW.refl hB⟩)
      · refine ev_iconst (v := (-1)) rfl rfl (by decide) ?_
        exact ev_iret rfl rfl rfl (⟨⟨_, rfl, by simp only [scRc, if_neg c_8, if_neg c_19, if_pos c_30], by simp only [scNc, if_neg c_8, if_neg c_19, if_pos c_30], PSc.refl _ _ _⟩, rfl, JW.refl hB⟩)
set_option maxRecDepth 100000 in
set_option maxHeartbeats 4000000 in
theorem l_mscanNY (L : Nat) (b : Bool) (h h1 : Hp) (hJ : JW [(63, 5), (64, 999), (65, 999), (66, 999), (67, 999), (68, 999), (69, 999), (70, 999)] h h1) (c : Nat → Int32) (k l f n : Int32) (n0 : Nat) (v ii : Int32) (h12 : n0 ≤ 12) (hO : AOm h h1 n0) (hv : v < 0) : EvQ mi_X10_scan 64 [some (.ref 63), some (.int k), some (.int l), some (.int f), some (.int n), some (.int (nI n0)), some (.int v), some (.int ii), none, none, none, none] [] (G0 L b) h1 0 0 (QI (fun r z => r = v ∧ z 63 5 = nI n0 ∧ AOm h z n0 ∧ ANm c f z n0 ((z 63 5).toNatClampNeg - n0)) [(63, 5), (64, 999), (65, 999), (66, 999), (67, 999), (68, 999), (69, 999), (70, 999)] (G0 L b) h) := by
  have hv0 : ¬ v = 0 := fun e_ => by rw [e_] at hv; exact absurd hv (by decide)
  refine ev_iload rfl rfl rfl ?_
  refine ev_iload rfl rfl rfl ?_
  refine ev_icmp_ge rfl rfl (fun c_68 => ?_) (fun c_68 => ?_)
  · refine ev_aload_n rfl rfl rfl ?_
    refine ev_iload rfl rfl rfl ?_
    refine ev_if_ge rfl rfl (fun z_ => absurd z_ (Int32.not_le.mpr hv)) (fun c_200 => ?_)
    refine ev_iload rfl rfl rfl ?_
    refine ev_goto rfl rfl ?_
    refine ev_putI rfl rfl fl_X10_121 rfl rfl rfl rfl rfl ?_
    refine ev_iload rfl rfl rfl ?_
    refine ev_if_ge rfl rfl (fun z_ => absurd z_ (Int32.not_le.mpr hv)) (fun c_217 => ?_)
    refine ev_iload rfl rfl rfl ?_
    refine ev_goto rfl rfl ?_
    exact ev_iret rfl rfl rfl (⟨⟨_, rfl, rfl, ev_rd1 _ _ _ _, fun w hw a a1 a2 => by rw [ev_rd2 (by omega)]; exact hO w hw a a1 a2, ANm.z h12 (ev_rd1 _ _ _ _)⟩, rfl, hJ.set rfl (show B (nI n0) 0 12 from nI_B (by omega) (by omega))⟩)
  · refine ev_iload rfl rfl rfl ?_
    refine ev_if_ne rfl rfl (fun c_73 => ?_) (fun z_ => absurd z_ hv0)
    refine ev_aload_n rfl rfl rfl ?_
    refine ev_iload rfl rfl rfl ?_
    refine ev_if_ge rfl rfl (fun z_ => absurd z_ (Int32.not_le.mpr hv)) (fun c_200 => ?_)
    refine ev_iload rfl rfl rfl ?_
    refine ev_goto rfl rfl ?_
    refine ev_putI rfl rfl fl_X10_121 rfl rfl rfl rfl rfl ?_
    refine ev_iload rfl rfl rfl ?_
    refine ev_if_ge rfl rfl (fun z_ => absurd z_ (Int32.not_le.mpr hv)) (fun c_217 => ?_)
    refine ev_iload rfl rfl rfl ?_
    refine ev_goto rfl rfl ?_
    exact ev_iret rfl rfl rfl (⟨⟨_, rfl, rfl, ev_rd1 _ _ _ _, fun w hw a a1 a2 => by rw [ev_rd2 (by omega)]; exact hO w hw a a1 a2, ANm.z h12 (ev_rd1 _ _ _ _)⟩, rfl, hJ.set rfl (show B (nI n0) 0 12 from nI_B (by omega) (by omega))⟩)

set_option maxRecDepth 100000 in
set_option maxHeartbeats 4000000 in
theorem l_mscanY (L : Nat) (b : Bool) (h : Hp) (hB : Bx h) (k : Nat) (hk : k < 4) (l f : Int32) (n0 : Nat) (h12 : n0 ≤ 12) (n : Nat) (hn : n ≤ 12) : ∀ (t i : Nat) (h1 : Hp) (w : Int32), i + t = n → JW [(63, 5), (64, 999), (65, 999), (66, 999), (67, 999), (68, 999), (69, 999), (70, 999)] h h1 → h1 63 5 = w → w = nI (n0 + i) → AOm h h1 n0 → ANm (fun y => h 94 (60 * k + y)) f h1 n0 i → EvQ mi_X10_scan 64 [some (.ref 63), some (.int (nI k)), some (.int l), some (.int f), some (.int (nI n)), some (.int (nI n0)), some (.int 0), some (.int (nI i)), none, none, none, none] [] (G0 L b) h1 0 0 (QI (fun r z => r = sc (fun y => h 94 (60 * k + y)) (h 93 k) f t i w ∧ z 63 5 = (if sc (fun y => h 94 (60 * k + y)) (h 93 k) f t i w < 0 then nI n0 else sc (fun y => h 94 (60 * k + y)) (h 93 k) f t i w) ∧ AOm h z n0 ∧ ANm (fun y => h 94 (60 * k + y)) f z n0 ((z 63 5).toNatClampNeg - n0)) [(63, 5), (64, 999), (65, 999), (66, 999), (67, 999), (68, 999), (69, 999), (70, 999)] (G0 L b) h) := by
  intro t
  induction t with
  | zero =>
    intro i h1 w hi hJ hw hwi hO hN
    have bw : B w 0 12 := by rw [← hw]; exact hJ.1 63 5
    have hwn : ¬ w < 0 := D_nlt bw (by decide : B 0 0 0) (by decide)
    have fs : h1 93 k = h 93 k := hJ.2 93 k rfl
    have l24 : n0 + i ≤ 12 := by
      have z := bw.2
      rw [hwi, nI_toInt (by omega)] at z
      omega
    have hi2 : i = n := by omega
    subst hi2
    refine ev_iload rfl rfl rfl ?_
    refine ev_iload rfl rfl rfl ?_
    refine ev_icmp_ge rfl rfl (fun c_68 => ?_) (fun z_ => absurd (Int32.le_refl _) z_)
    refine ev_aload_n rfl rfl rfl ?_
    refine ev_iload rfl rfl rfl ?_
    refine ev_if_ge rfl rfl (fun c_200 => ?_) (fun z_ => absurd (by decide) z_)
    refine ev_aload_n rfl rfl rfl ?_
    refine ev_getI rfl rfl fl_X10_121 rfl rfl rfl ?_
    refine ev_putI rfl rfl fl_X10_121 rfl rfl rfl rfl rfl ?_
    refine ev_iload rfl rfl rfl ?_
    refine ev_if_ge rfl rfl (fun c_217 => ?_) (fun z_ => absurd (by decide) z_)
    refine ev_aload_n rfl rfl rfl ?_
    refine ev_getI rfl rfl fl_X10_121 rfl rfl rfl ?_
    try simp (disch := decide) only [ev_rd1, ev_rd2]
    exact ev_iret rfl rfl rfl (⟨⟨_, rfl, hw, (ev_rd1 _ _ _ _).trans (hw.trans (if_neg hwn).symm), fun w_ hw_ a a1 a2 => by rw [ev_rd2 (by omega)]; exact hO w_ hw_ a a1 a2, by rw [ev_rd1, hw, hwi, nI_clamp (by omega), Nat.add_sub_cancel_left]; exact fun u hu => by simp (disch := decide) only [ev_rd2]; exact hN u hu⟩, rfl, hJ.set rfl (hJ.1 63 5)⟩)
  | succ t ih =>
    intro i h1 w hi hJ hw hwi hO hN
    have bw : B w 0 12 := by rw [← hw]; exact hJ.1 63 5
    have hwn : ¬ w < 0 := D_nlt bw (by decide : B 0 0 0) (by decide)
    have fs : h1 93 k = h 93 k := hJ.2 93 k rfl
    have l24 : n0 + i ≤ 12 := by
      have z := bw.2
      rw [hwi, nI_toInt (by omega)] at z
      omega
    have hi12 : i < 12 := by omega
    refine ev_iload rfl rfl rfl ?_
    refine ev_iload rfl rfl rfl ?_
    refine ev_icmp_ge rfl rfl (fun z_ => absurd z_ (show ¬ nI n ≤ nI i from nI_ge (by omega) (by omega))) (fun c_68 => ?_)
    refine ev_iload rfl rfl rfl ?_
    refine ev_if_ne rfl rfl (fun z_ => absurd (by decide) z_) (fun c_73 => ?_)
    refine ev_iload_n rfl rfl rfl ?_
    refine ev_i2l rfl rfl ?_
    refine ev_iconst (v := 4) rfl rfl (by decide) ?_
    refine ev_iload rfl rfl rfl ?_
    refine ev_imul rfl rfl ?_
    refine ev_i2l rfl rfl ?_
    refine ev_ladd rfl rfl ?_
    refine ev_lstore rfl rfl rfl rfl ?_
    dsimp only [List.set]
    refine ev_lload rfl rfl rfl ?_
    refine ev_lconst (v := 0) rfl rfl rfl ?_
    refine ev_lcmp rfl rfl ?_
    refine ev_if_lt rfl rfl (fun c_90 => ?_) (fun c_90 => ?_)
    · refine ev_bipush (v := (-12)) rfl rfl (by decide) ?_
      refine ev_istore rfl rfl rfl rfl ?_
      dsimp only [List.set]
      refine ev_goto rfl rfl ?_
      refine ev_iinc (y := 1) rfl rfl rfl (by decide) rfl rfl ?_
      dsimp only [List.set]
      refine ev_goto rfl rfl ?_
      have eo : -12 = oC (fun y => h 94 (60 * k + y)) (h 93 k) (f + 4 * nI i) w := by unfold oC; rw [if_neg (ms_no1 hi12 c_90)]
      rw [nI_1 i]
      refine (EvQ.drop 8 (EvQ.mono (l_mscanNY L b h h1 hJ (fun y => h 94 (60 * k + y)) _ _ _ _ n0 (-12) _ h12 hO (by decide)) (Nat.le_refl _) (Nat.le_refl _) (fun v G' h' z => ?_)))
      obtain ⟨⟨r, ev, er, ez, eo1, en1⟩, eg, ej⟩ := z
      exact ⟨⟨r, ev, er.trans (sc_neg eo (by decide)), ez.trans (sc_negN eo (by decide)), eo1, en1⟩, eg, ej⟩
    · refine ev_lload rfl rfl rfl ?_
      refine ev_ldc2 rfl rfl kc_X10_360 ?_
      refine ev_ladd rfl rfl ?_
      refine ev_aload_n rfl rfl rfl ?_
      refine ev_getR rfl rfl fl_X10_115 rfl rfl rfl rfl ?_
      refine ev_iload_n rfl rfl rfl ?_
      refine ev_iald rfl rfl rfl (vp_in_nI (by omega) (by decide)) (nI_clamp (by omega)) ?_
      refine ev_i2l rfl rfl ?_
      refine ev_lcmp rfl rfl ?_
      refine ev_if_le rfl rfl (fun c_107 => ?_) (fun c_107 => ?_)
      · obtain ⟨x, hx, e32, ex, hok⟩ := ms_ok hi12 (hB 93 k) c_90 (by rw [← fs]; exact c_107)
        refine ev_bipush (v := 60) rfl rfl (by decide) ?_
        refine ev_iload_n rfl rfl rfl ?_
        refine ev_imul rfl rfl ?_
        refine ev_lload rfl rfl rfl ?_
        refine ev_l2i rfl rfl ?_
        rw [e32]
        refine ev_iadd rfl rfl ?_
        rw [show (60 : Int32) * nI k + nI x = nI (60 * k + x) from by rw [show (60 : Int32) * nI k = nI (60 * k) from nI_mul 60 k, nI_add]]
        refine ev_istore rfl rfl rfl rfl ?_
        dsimp only [List.set]
        refine ev_aload_n rfl rfl rfl ?_
        refine ev_aload_n rfl rfl rfl ?_
        refine ev_getR rfl rfl fl_X10_118 rfl rfl rfl rfl ?_
        refine ev_iload rfl rfl rfl ?_
        refine ev_iald (j := 60 * k + x) rfl rfl rfl (vp_in_nI (by omega) (by decide)) (nI_clamp (by omega)) ?_
        refine ev_aload_n rfl rfl rfl ?_
        refine ev_getR rfl rfl fl_X10_118 rfl rfl rfl rfl ?_
        refine ev_iload rfl rfl rfl ?_
        refine ev_iconst (v := 1) rfl rfl (by decide) ?_
        refine ev_iadd rfl rfl ?_
        refine ev_iald (j := 60 * k + x + 1) rfl rfl rfl (by rw [show nI (60 * k + x) + 1 = nI (60 * k + x + 1) from nI_add _ 1]; exact vp_in_nI (by omega) (by decide)) (by rw [show nI (60 * k + x) + 1 = nI (60 * k + x + 1) from nI_add _ 1]; exact nI_clamp (by omega)) ?_
        refine ev_aload_n rfl rfl rfl ?_
        refine ev_getR rfl rfl fl_X10_118 rfl rfl rfl rfl ?_
        refine ev_iload rfl rfl rfl ?_
        refine ev_iconst (v := 2) rfl rfl (by decide) ?_
        refine ev_iadd rfl rfl ?_
        refine ev_iald (j := 60 * k + x + 2) rfl rfl rfl (by rw [show nI (60 * k + x) + 2 = nI (60 * k + x + 2) from nI_add _ 2]; exact vp_in_nI (by omega) (by decide)) (by rw [show nI (60 * k + x) + 2 = nI (60 * k + x + 2) from nI_add _ 2]; exact nI_clamp (by omega)) ?_
        refine ev_aload_n rfl rfl rfl ?_
        refine ev_getR rfl rfl fl_X10_118 rfl rfl rfl rfl ?_
        refine ev_iload rfl rfl rfl ?_
        refine ev_iconst (v := 3) rfl rfl (by decide) ?_
        refine ev_iadd rfl rfl ?_
        refine ev_iald (j := 60 * k + x + 3) rfl rfl rfl (by rw [show nI (60 * k + x) + 3 = nI (60 * k + x + 3) from nI_add _ 3]; exact vp_in_nI (by omega) (by decide)) (by rw [show nI (60 * k + x) + 3 = nI (60 * k + x + 3) from nI_add _ 3]; exact nI_clamp (by omega)) ?_
        refine ev_if_eq rfl rfl (fun c_162 => ?_) (fun c_162 => ?_)
        · refine ev_iconst (v := 0) rfl rfl (by decide) ?_
          refine ev_V4I hJ rfl rfl rfl lk_X10_362 vt_X10_whistle rfl rfl rfl rfl rfl (w_mwhY L b h1 hJ.1 _ _ _ _ (by decide)) (fun r1 h2 q1 j1 k1 => ?_)
          obtain ⟨q1a, q1c⟩ := q1
          rw [hJ.2 94 (60 * k + x) rfl, hJ.2 94 (60 * k + x + 1) rfl, hJ.2 94 (60 * k + x + 2) rfl] at q1a q1c
          have q1b : h2 63 5 = nA w (h 94 (60 * k + x)) (h 94 (60 * k + x + 1)) (h 94 (60 * k + x + 2)) := by rw [q1c, (jw_mwh hJ.1 _ _ _ _).2, hw]
          rw [hw] at q1a
          refine ev_istore rfl rfl rfl rfl ?_
          dsimp only [List.set]
          refine ev_iload rfl rfl rfl ?_
          refine ev_if_ge rfl rfl (fun c_177 => ?_) (fun c_177 => ?_)
          · refine ev_iconst (v := 0) rfl rfl (by decide) ?_
            refine ev_istore rfl rfl rfl rfl ?_
            dsimp only [List.set]
            refine ev_iinc (y := 1) rfl rfl rfl (by decide) rfl rfl ?_
            dsimp only [List.set]
            refine ev_goto rfl rfl ?_
            have e3 := oC_nn (c := fun y => h 94 (60 * k + y)) (s := h 93 k) hok ex q1a c_177
            have e4 : oN (fun y => h 94 (60 * k + y)) (h 93 k) (f + 4 * nI i) w = h2 63 5 := (oN_ok (c := fun y => h 94 (60 * k + y)) hok ex).trans q1b.symm
            have e5 : ¬ oC (fun y => h 94 (60 * k + y)) (h 93 k) (f + 4 * nI i) w < 0 := by
              rw [show oC (fun y => h 94 (60 * k + y)) (h 93 k) (f + 4 * nI i) w = h2 63 5 from e3.trans q1b.symm]
              exact D_nlt (show B (h2 63 5) 0 12 from j1.1 63 5) (by decide : B 0 0 0) (by decide)
            have e6 : z_01 (h 94 (60 * k + (x + 3))) = 0 := by
              have y_ := (z01p c_162)
              rw [hJ.2 94 _ rfl] at y_
              exact y_
            have an := anm_add (c := fun y => h 94 (60 * k + y)) hN (hJ.1 63 5) (show x = ixS f i from ex.symm) (hw.trans hwi) (by omega) (by rw [hw]; have y_ := Int32.not_lt.mpr c_177; rw [q1a] at y_; exact y_) e6.symm
            have an2 : ANm (fun y => h 94 (60 * k + y)) f h2 n0 (i + 1) ∧ h2 63 5 = nI (n0 + (i + 1)) := by rw [q1c]; exact an
            have z_ := ih (i + 1) h2 (h2 63 5) (by omega) j1 rfl an2.2 (by rw [q1c]; exact wh_AO hO (by rw [hw, hwi, nI_clamp (by omega)]; omega) (hJ.1 63 5)) an2.1
            rw [← e4, sc_s e5] at z_
            rw [nI_1 i]
            exact EvQ.drop 11 (EvQ.drop 10 (EvQ.drop 8 z_))
          · refine ev_bipush (v := (-20)) rfl rfl (by decide) ?_
            refine ev_iload rfl rfl rfl ?_
            refine ev_iadd rfl rfl ?_
            refine ev_goto rfl rfl ?_
            refine ev_istore rfl rfl rfl rfl ?_
            dsimp only [List.set]
            refine ev_iinc (y := 1) rfl rfl rfl (by decide) rfl rfl ?_
            dsimp only [List.set]
            refine ev_goto rfl rfl ?_
            have eo : -20 + r1 = oC (fun y => h 94 (60 * k + y)) (h 93 k) (f + 4 * nI i) w := oC_neg (c := fun y => h 94 (60 * k + y)) (s := h 93 k) hok ex q1a c_177
            rw [nI_1 i]
            refine (EvQ.drop 8 (EvQ.drop 10 (EvQ.drop 11 (EvQ.mono (l_mscanNY L b h h2 j1 (fun y => h 94 (60 * k + y)) _ _ _ _ n0 (-20 + r1) _ h12 (by rw [q1c]; exact wh_AO hO (by rw [hw, hwi, nI_clamp (by omega)]; omega) (hJ.1 63 5)) (by rw [q1a]; exact zA_m20 bw (by rw [← q1a]; exact Int32.not_le.mp c_177))) (Nat.le_refl _) (Nat.le_refl _) (fun v G' h' z => ?_)))))
            obtain ⟨⟨r, ev, er, ez, eo1, en1⟩, eg, ej⟩ := z
            exact ⟨⟨r, ev, er.trans (sc_neg eo (by rw [q1a]; exact zA_m20 bw (by rw [← q1a]; exact Int32.not_le.mp c_177))), ez.trans (sc_negN eo (by rw [q1a]; exact zA_m20 bw (by rw [← q1a]; exact Int32.not_le.mp c_177))), eo1, en1⟩, eg, ej⟩
        · refine ev_iconst (v := 1) rfl rfl (by decide) ?_
          refine ev_goto rfl rfl ?_
          refine ev_V4I hJ rfl rfl rfl lk_X10_362 vt_X10_whistle rfl rfl rfl rfl rfl (w_mwhY L b h1 hJ.1 _ _ _ _ (by decide)) (fun r1 h2 q1 j1 k1 => ?_)
          obtain ⟨q1a, q1c⟩ := q1
          rw [hJ.2 94 (60 * k + x) rfl, hJ.2 94 (60 * k + x + 1) rfl, hJ.2 94 (60 * k + x + 2) rfl] at q1a q1c
          have q1b : h2 63 5 = nA w (h 94 (60 * k + x)) (h 94 (60 * k + x + 1)) (h 94 (60 * k + x + 2)) := by rw [q1c, (jw_mwh hJ.1 _ _ _ _).2, hw]
          rw [hw] at q1a
          refine ev_istore rfl rfl rfl rfl ?_
          dsimp only [List.set]
          refine ev_iload rfl rfl rfl ?_
          refine ev_if_ge rfl rfl (fun c_177 => ?_) (fun c_177 => ?_)
          · refine ev_iconst (v := 0) rfl rfl (by decide) ?_
            refine ev_istore rfl rfl rfl rfl ?_
            dsimp only [List.set]
            refine ev_iinc (y := 1) rfl rfl rfl (by decide) rfl rfl ?_
            dsimp only [List.set]
            refine ev_goto rfl rfl ?_
            have e3 := oC_nn (c := fun y => h 94 (60 * k + y)) (s := h 93 k) hok ex q1a c_177
            have e4 : oN (fun y => h 94 (60 * k + y)) (h 93 k) (f + 4 * nI i) w = h2 63 5 := (oN_ok (c := fun y => h 94 (60 * k + y)) hok ex).trans q1b.symm
            have e5 : ¬ oC (fun y => h 94 (60 * k + y)) (h 93 k) (f + 4 * nI i) w < 0 := by
              rw [show oC (fun y => h 94 (60 * k + y)) (h 93 k) (f + 4 * nI i) w = h2 63 5 from e3.trans q1b.symm]
              exact D_nlt (show B (h2 63 5) 0 12 from j1.1 63 5) (by decide : B 0 0 0) (by decide)
            have e6 : z_01 (h 94 (60 * k + (x + 3))) = 1 := by
              have y_ := (z01n c_162)
              rw [hJ.2 94 _ rfl] at y_
              exact y_
            have an := anm_add (c := fun y => h 94 (60 * k + y)) hN (hJ.1 63 5) (show x = ixS f i from ex.symm) (hw.trans hwi) (by omega) (by rw [hw]; have y_ := Int32.not_lt.mpr c_177; rw [q1a] at y_; exact y_) e6.symm
            have an2 : ANm (fun y => h 94 (60 * k + y)) f h2 n0 (i + 1) ∧ h2 63 5 = nI (n0 + (i + 1)) := by rw [q1c]; exact an
            have z_ := ih (i + 1) h2 (h2 63 5) (by omega) j1 rfl an2.2 (by rw [q1c]; exact wh_AO hO (by rw [hw, hwi, nI_clamp (by omega)]; omega) (hJ.1 63 5)) an2.1
            rw [← e4, sc_s e5] at z_
            rw [nI_1 i]
            exact EvQ.drop 11 (EvQ.drop 10 (EvQ.drop 8 z_))
          · refine ev_bipush (v := (-20)) rfl rfl (by decide) ?_
            refine ev_iload rfl rfl rfl ?_
            refine ev_iadd rfl rfl ?_
            refine ev_goto rfl rfl ?_
            refine ev_istore rfl rfl rfl rfl ?_
            dsimp only [List.set]
            refine ev_iinc (y := 1) rfl rfl rfl (by decide) rfl rfl ?_
            dsimp only [List.set]
            refine ev_goto rfl rfl ?_
            have eo : -20 + r1 = oC (fun y => h 94 (60 * k + y)) (h 93 k) (f + 4 * nI i) w := oC_neg (c := fun y => h 94 (60 * k + y)) (s := h 93 k) hok ex q1a c_177
            rw [nI_1 i]
            refine (EvQ.drop 8 (EvQ.drop 10 (EvQ.drop 11 (EvQ.mono (l_mscanNY L b h h2 j1 (fun y => h 94 (60 * k + y)) _ _ _ _ n0 (-20 + r1) _ h12 (by rw [q1c]; exact wh_AO hO (by rw [hw, hwi, nI_clamp (by omega)]; omega) (hJ.1 63 5)) (by rw [q1a]; exact zA_m20 bw (by rw [← q1a]; exact Int32.not_le.mp c_177))) (Nat.le_refl _) (Nat.le_refl _) (fun v G' h' z => ?_)))))
            obtain ⟨⟨r, ev, er, ez, eo1, en1⟩, eg, ej⟩ := z
            exact ⟨⟨r, ev, er.trans (sc_neg eo (by rw [q1a]; exact zA_m20 bw (by rw [← q1a]; exact Int32.not_le.mp c_177))), ez.trans (sc_negN eo (by rw [q1a]; exact zA_m20 bw (by rw [← q1a]; exact Int32.not_le.mp c_177))), eo1, en1⟩, eg, ej⟩
      · refine ev_bipush (v := (-12)) rfl rfl (by decide) ?_
        refine ev_istore rfl rfl rfl rfl ?_
        dsimp only [List.set]
        refine ev_goto rfl rfl ?_
        refine ev_iinc (y := 1) rfl rfl rfl (by decide) rfl rfl ?_
        dsimp only [List.set]
        refine ev_goto rfl rfl ?_
        have eo : -12 = oC (fun y => h 94 (60 * k + y)) (h 93 k) (f + 4 * nI i) w := by unfold oC; rw [if_neg (ms_no2 hi12 (hB 93 k) (by rw [← fs]; exact c_107))]
        rw [nI_1 i]
        refine (EvQ.drop 8 (EvQ.mono (l_mscanNY L b h h1 hJ (fun y => h 94 (60 * k + y)) _ _ _ _ n0 (-12) _ h12 hO (by decide)) (Nat.le_refl _) (Nat.le_refl _) (fun v G' h' z => ?_)))
        obtain ⟨⟨r, ev, er, ez, eo1, en1⟩, eg, ej⟩ := z
        exact ⟨⟨r, ev, er.trans (sc_neg eo (by decide)), ez.trans (sc_negN eo (by decide)), eo1, en1⟩, eg, ej⟩

set_option maxRecDepth 100000 in
set_option maxHeartbeats 4000000 in
theorem w_mscanY (L : Nat) (b : Bool) (h : Hp) (hB : Bx h) (k l f n : Int32) : EvI mi_X10_scan [.ref 63, .int k, .int l, .int f, .int n] (G0 L b) h (fun r z => r = scRm h k l f n ∧ z 63 5 = scNm h k l f n ∧ PSm (fun y => h 94 (60 * k.toNatClampNeg + y)) f h z) [(63, 5), (64, 999), (65, 999), (66, 999), (67, 999), (68, 999), (69, 999), (70, 999)] := by
  refine EvM.of2 (lo := [some (.ref 63), some (.int k), some (.int l), some (.int f), some (.int n), none, none, none, none, none, none, none]) pf_X10_scan ok_X10_scan rfl rfl ?_
  refine ev_iload_n rfl rfl rfl ?_
  refine ev_iload_n rfl rfl rfl ?_
  refine ev_S2D rfl rfl lk_X10_335 st_X10_isSheet rfl rfl (c_isSheet _ _ _ _) ?_
  refine ev_if_eq rfl rfl (fun c_5 => ?_) (fun c_5 => ?_)
  · refine ev_iconst (v := (-1)) rfl rfl (by decide) ?_
    exact ev_iret rfl rfl rfl (⟨⟨_, rfl, by simp only [scRm, if_pos c_5], by simp only [scNm, if_pos c_5], PSm.refl _ _ _⟩, rfl, JW.refl hB⟩)
  · refine ev_iload rfl rfl rfl ?_
    refine ev_i2l rfl rfl ?_
    refine ev_lconst (v := 0) rfl rfl rfl ?_
    refine ev_ldc2 rfl rfl kc_X10_358 ?_
    refine ev_S3D rfl rfl lk_X10_124 st_X10_in rfl rfl (c_inw _ _ _ (0) (12) (by decide) (by decide)) ?_
    refine ev_if_ne rfl rfl (fun c_18 => ?_) (fun c_18 => ?_)
    · obtain ⟨j, hj, rfl⟩ := z_sht_k c_5
      have ej := nI_clamp (show j < 2 ^ 31 by omega)
      obtain ⟨m, hm, rfl⟩ : ∃ m : Nat, m ≤ 12 ∧ n = nI m := ⟨_, (B.nI (u := 12) (z_wi_B (by decide : B 0 0 0) (by decide : B 12 12 12) c_18)).2, (B.nI (u := 12) (z_wi_B (by decide : B 0 0 0) (by decide : B 12 12 12) c_18)).1⟩
      have em := nI_clamp (show m < 2 ^ 31 by omega)
      refine ev_aload_n rfl rfl rfl ?_
      refine ev_getR rfl rfl fl_X10_112 rfl rfl rfl rfl ?_
      refine ev_iload_n rfl rfl rfl ?_
      refine ev_iald rfl rfl rfl (vp_in_nI (by omega) (by decide)) (nI_clamp (by omega)) ?_
      refine ev_iload_n rfl rfl rfl ?_
      refine ev_icmp_eq rfl rfl (fun c_30 => ?_) (fun c_30 => ?_)
      · refine ev_aload_n rfl rfl rfl ?_
        refine ev_getI rfl rfl fl_X10_121 rfl rfl rfl ?_
        refine ev_istore rfl rfl rfl rfl ?_
        dsimp only [List.set]
        refine ev_iconst (v := 0) rfl rfl (by decide) ?_
        refine ev_istore rfl rfl rfl rfl ?_
        dsimp only [List.set]
        refine ev_iconst (v := 0) rfl rfl (by decide) ?_
        refine ev_istore rfl rfl rfl rfl ?_
        dsimp only [List.set]
        have e47 : h 63 5 = nI (h 63 5).toNatClampNeg := (B.nI (u := 12) (hB 63 5)).1
        have z0 := l_mscanY L b h hB j hj l f (h 63 5).toNatClampNeg (B.nI (u := 12) (hB 63 5)).2 m hm m 0 h (h 63 5) (by omega) (JW.refl hB) rfl e47 (fun _ _ _ _ _ => rfl) (fun u hu => absurd hu (Nat.not_lt_zero _))
        rw [← e47] at z0
        refine EvQ.mono z0 (Nat.le_refl _) (Nat.le_refl _) (fun v G' h' z => ?_)
        obtain ⟨⟨r, ev, er, ez, eo, en⟩, eg, ej2⟩ := z
        exact ⟨⟨r, ev, er.trans (by simp only [scRm, if_neg c_5, if_neg c_18, if_pos c_30, ej, em]), ez.trans (by simp only [scNm, if_neg c_5, if_neg c_18, if_pos c_30, ej, em]), by rw [ej]; exact ⟨eo, en⟩⟩, eg, ej2⟩
      · refine ev_aload_n rfl rfl rfl ?_
        refine ev_getR rfl rfl fl_X10_112 rfl rfl rfl rfl ?_
        refine ev_iload_n rfl rfl rfl ?_
        refine ev_iald rfl rfl rfl (vp_in_nI (by omega) (by decide)) (nI_clamp (by omega)) ?_
        refine ev_bipush (v := (-4)) rfl rfl (by decide) ?_
        refine ev_icmp_ne rfl rfl (fun c_41 => ?_) (fun c_41 => ?_)
        · refine ev_bipush (v := (-13)) rfl rfl (by decide) ?_
          exact ev_iret rfl rfl rfl (⟨⟨_, rfl, by simp only [scRm, if_neg c_5, if_neg c_18, if_neg c_30, if_neg c_41, ej], by simp only [scNm, if_neg c_5, if_neg c_18, if_neg c_30, if_neg c_41, ej], PSm.refl _ _ _⟩, rfl, JW.refl hB⟩)
        · refine ev_bipush (v := (-11)) rfl rfl (by decide) ?_
          refine ev_goto rfl rfl ?_
          exact ev_iret rfl rfl rfl (⟨⟨_, rfl, by simp only [scRm, if_neg c_5, if_neg c_18, if_neg c_30, if_pos c_41, ej], by simp only [scNm, if_neg c_5, if_neg c_18, if_neg c_30, if_pos c_41, ej], PSm.refl _ _ _⟩, rfl, JW.refl hB⟩)
    · refine ev_iconst (v := (-1)) rfl rfl (by decide) ?_
      exact ev_iret rfl rfl rfl (⟨⟨_, rfl, by simp only [scRm, if_neg c_5, if_pos c_18], by simp only [scNm, if_neg c_5, if_pos c_18], PSm.refl _ _ _⟩, rfl, JW.refl hB⟩)

/-- whistles are added alike on both sides -/
theorem RE.grow {h h2 : Hp} (hB : Bx h) (hB2 : Bx h2) (hE : RE h) (e2 : ∀ j, h2 2 j = h 2 j) (e46 : h2 4 6 = h 4 6) (e9 : ∀ j, h2 9 j = h 9 j) (e10 : ∀ j, h2 10 j = h 10 j) (e11 : ∀ j, h2 11 j = h 11 j) (e13 : ∀ i, i < 10 → ∀ j, h2 (13 + i) j = h (13 + i) j) (e63 : ∀ f, f ≠ 5 → h2 63 f = h 63 f) (e71 : ∀ j, h2 71 j = h 71 j) (hn : h2 4 7 = h2 63 5) (hl : nW h ≤ nW h2) (o1 : AO h h2 (nW h)) (o2 : AOm h h2 (nW h)) (nw : ∀ w, nW h ≤ w → w < nW h2 → h2 5 w = h2 64 w ∧ h2 6 w = h2 65 w ∧ h2 7 w = h2 66 w ∧ h2 8 w = h2 67 w ∧ h2 68 w = 0 ∧ h2 69 w = 0 ∧ h2 70 w = 0 ∧ B (h2 6 w) 1 9 ∧ B (h2 7 w) 0 20 ∧ B (h2 5 w) 0 3600) : RE h2 := by
  obtain ⟨⟨b0, b1, b2, b3, b4⟩, ⟨w1, w2, w3⟩, ⟨r1, r2⟩, r3⟩ := hE
  have l12 : nW h ≤ 12 := (B.nI (u := 12) (hB 4 7)).2
  have l12' : nW h2 ≤ 12 := (B.nI (u := 12) (hB2 4 7)).2
  have f9 : h2 9 = h 9 := funext e9
  have f10 : h2 10 = h 10 := funext e10
  have ea : nA_ h2 = nA_ h := by unfold nA_; rw [e63 13 (by decide)]
  have ex : nX h2 = nX h := by unfold nX; rw [e11]
  have ec : ∀ k, cK h2 k = cK h k := fun k => by unfold cK; rw [e71]
  refine ⟨?_, ⟨hn, fun w hw => ?_, fun w hw h12 => ?_⟩, ⟨?_, fun k hk => ?_⟩, ?_⟩
  · unfold RBo
    rw [e2, e2, e2, e2, e2, e63 0 (by decide), e63 1 (by decide), e63 2 (by decide), e63 3 (by decide), e63 4 (by decide)]
    exact ⟨b0, b1, b2, b3, b4⟩
  · unfold RW1
    rw [e9, e10, e46]
    by_cases q : w < nW h
    · obtain ⟨z1, z2, z3, z4, z5, z6, z7, z8⟩ := w2 w q
      rw [o1 w q 5 (by decide) (by decide), o1 w q 6 (by decide) (by decide), o1 w q 7 (by decide) (by decide), o1 w q 8 (by decide) (by decide), o2 w q 64 (by decide) (by decide), o2 w q 65 (by decide) (by decide), o2 w q 66 (by decide) (by decide), o2 w q 67 (by decide) (by decide), o2 w q 68 (by decide) (by decide), o2 w q 69 (by decide) (by decide), o2 w q 70 (by decide) (by decide)]
      exact ⟨z1, z2, z3, z4, z5, z6, z7, z8⟩
    · obtain ⟨n1, n2, n3, n4, n5, n6, n7, n8⟩ := nw w (by omega) hw
      obtain ⟨y1, y2, y3⟩ := w3 w (by omega) (by omega)
      exact ⟨n1, n2, n3, n4, y1.trans n5.symm, y2.trans n6.symm, y3.trans n7.symm, n8⟩
  · have z := w3 w (by omega) h12
    rw [e9, e10, e46]
    exact z
  · rw [e11, e63 13 (by decide)]; exact r1
  · rw [ea] at hk
    have er : rI h2 k = rI h k := by unfold rI; rw [ea, ex]
    rw [er]
    exact RRow.cg (r2 k hk) (fun j => e13 _ (Nat.mod_lt _ (by decide)) j) (fun f _ => e71 _) hl l12 (fun q => ⟨q, ec _⟩)
  · rw [ea, f9, f10, e46]
    intro q
    rw [ec]
    exact r3 q
theorem wm635 {f : Nat} (hf : f ≠ 5) : wm [(63, 5), (64, 999), (65, 999), (66, 999), (67, 999), (68, 999), (69, 999), (70, 999)] 63 f = false := by
  by_cases q : Nat.beq 5 f = true
  · exact absurd (Nat.eq_of_beq_eq_true q).symm hf
  · have q2 : Nat.beq 5 f = false := by
      cases y : Nat.beq 5 f with
      | false => rfl
      | true => exact absurd y q
    show (Nat.beq 63 63 && (Nat.beq 5 999 || Nat.beq 5 f) || _) = false
    rw [q2]
    rfl
theorem rel_whistle {h h1 h2 : Hp} (hB : Bx h) (hB1 : Bx h1) (hB2 : Bx h2) (hE : RE h) {n d s q : Int32} (J1 : JW [(4, 7), (5, 999), (6, 999), (7, 999), (8, 999)] h h1) (J2 : JW [(63, 5), (64, 999), (65, 999), (66, 999), (67, 999), (68, 999), (69, 999), (70, 999)] h1 h2) (e1 : h1 = k_add h (h 4 7).toNatClampNeg n d s q) (e2 : h2 = kmWh h1 n d s q) : RE h2 := by
  have b7 : B (h 4 7) 0 12 := hB 4 7
  have w1 := hE.2.1.1
  have en : h 4 7 = nI (nW h) := (B.nI (u := 12) b7).1
  have n5 : h1 63 5 = h 63 5 := J1.2 63 5 rfl
  by_cases e : zA (h 4 7) n d s < 0
  · have f1 : h1 = h := e1.trans (k_add_no b7 e)
    have f2 : h2 = h := by rw [e2, f1]; exact kmWh_no (hB 63 5) (by rw [← w1]; exact e)
    rw [f2]; exact hE
  · obtain ⟨a1, a2, a3⟩ := k_add_ok (m := (h 4 7).toNatClampNeg) q b7 e
    have b5 : B (h1 63 5) 0 12 := hB1 63 5
    obtain ⟨c1, c2⟩ := kmWh_ok (h := h1) (n := n) (d := d) (s := s) q b5 (by rw [n5, ← w1]; exact e)
    have em : (h1 63 5).toNatClampNeg = nW h := by unfold nW; rw [n5, w1]
    have l12 : nW h < 12 := by
      have z := w_lt a2
      have e12 : (12 : Int32).toInt = 12 := by decide
      have y : nW h ≤ 12 := (B.nI (u := 12) b7).2
      rw [en, nI_toInt (by omega)] at z
      omega
    have g47 : h2 4 7 = nI (nW h + 1) := by rw [J2.2 4 7 rfl, e1, a1, ev_rd1, en, nI_1]
    have g635 : h2 63 5 = nI (nW h + 1) := by rw [e2, c1, ev_rd1, n5, ← w1, en, nI_1]
    have gW : nW h2 = nW h + 1 := by
      rw [show nW h2 = (h2 4 7).toNatClampNeg from rfl, g47]
      exact nI_clamp (by omega)
    have k1 : ∀ a w, w < nW h → 5 ≤ a → a ≤ 8 → h1 a w = h a w := fun a w hw p1 p2 => by
      rw [e1]
      exact add_AO (h := h) (X := h) (n0 := nW h) (fun _ _ _ _ _ => rfl) (Nat.le_refl _) b7 w hw a p1 p2
    refine RE.grow hB hB2 hE (fun j => by rw [J2.2 2 j rfl, J1.2 2 j rfl]) (by rw [J2.2 4 6 rfl, J1.2 4 6 rfl]) (fun j => by rw [J2.2 9 j rfl, J1.2 9 j rfl]) (fun j => by rw [J2.2 10 j rfl, J1.2 10 j rfl]) (fun j => by rw [J2.2 11 j rfl, J1.2 11 j rfl]) (fun i hi j => ?_) (fun f hf => by rw [J2.2 63 f (wm635 hf), J1.2 63 f (wm_lo rfl (by decide))]) (fun j => by rw [J2.2 71 j rfl, J1.2 71 j rfl]) (g47.trans g635.symm) (by omega) (fun w hw a p1 p2 => ?_) (fun w hw a p1 p2 => ?_) (fun w h1w h2w => ?_)
    · rcases (show i = 0 ∨ i = 1 ∨ i = 2 ∨ i = 3 ∨ i = 4 ∨ i = 5 ∨ i = 6 ∨ i = 7 ∨ i = 8 ∨ i = 9 by omega) with rfl | rfl | rfl | rfl | rfl | rfl | rfl | rfl | rfl | rfl <;> rw [J2.2 _ j rfl, J1.2 _ j rfl]
    · rw [J2.2 a w (wm_hi rfl (by omega))]; exact k1 a w hw p1 p2
    · rw [e2]
      have z := wh_AO (h := h1) (X := h1) (n0 := nW h) (n := n) (d := d) (s := s) (q := q) (fun _ _ _ _ _ => rfl) (Nat.le_of_eq em.symm) b5 w hw a p1 p2
      rw [z]
      exact J1.2 a w (wm_lo rfl (by omega))
    · have ew : w = nW h := by omega
      subst ew
      have em2 : (h 4 7).toNatClampNeg = nW h := rfl
      rw [J2.2 5 _ rfl, J2.2 6 _ rfl, J2.2 7 _ rfl, J2.2 8 _ rfl, e2, c1, em, e1, a1, em2]
      simp (disch := omega) only [ev_rd1, ev_rd2, ev_rd3]
      exact ⟨trivial, trivial, trivial, trivial, trivial, trivial, trivial, a3⟩

theorem rel_scanE {h h1 h2 : Hp} (hB : Bx h) (hB1 : Bx h1) (hB2 : Bx h2) (hE : RE h) {c c' : Nat → Int32} (ec : ∀ x, x < 60 → c x = c' x) {f : Int32} (J1 : JW [(4, 7), (5, 999), (6, 999), (7, 999), (8, 999)] h h1) (J2 : JW [(63, 5), (64, 999), (65, 999), (66, 999), (67, 999), (68, 999), (69, 999), (70, 999)] h1 h2) (p1 : PSc c f h h1) (p2 : PSm c' f h1 h2) (e7 : h2 63 5 = h1 4 7) (hl : nW h ≤ nW h1) : RE h2 := by
  have w1 := hE.2.1.1
  have n5 : h1 63 5 = h 63 5 := J1.2 63 5 rfl
  have em : (h1 63 5).toNatClampNeg = nW h := by unfold nW; rw [n5, w1]
  have g7 : h2 4 7 = h1 4 7 := J2.2 4 7 rfl
  have gW : nW h2 = nW h1 := by unfold nW; rw [g7]
  obtain ⟨o1, a1⟩ := p1
  obtain ⟨o2, a2⟩ := p2
  rw [em] at o2 a2
  refine RE.grow hB hB2 hE (fun j => by rw [J2.2 2 j rfl, J1.2 2 j rfl]) (by rw [J2.2 4 6 rfl, J1.2 4 6 rfl]) (fun j => by rw [J2.2 9 j rfl, J1.2 9 j rfl]) (fun j => by rw [J2.2 10 j rfl, J1.2 10 j rfl]) (fun j => by rw [J2.2 11 j rfl, J1.2 11 j rfl]) (fun i hi j => ?_) (fun f hf => by rw [J2.2 63 f (wm635 hf), J1.2 63 f (wm_lo rfl (by decide))]) (fun j => by rw [J2.2 71 j rfl, J1.2 71 j rfl]) (g7.trans e7.symm) (by rw [gW]; exact hl) (fun w hw a p1 p2 => ?_) (fun w hw a p1 p2 => ?_) (fun w h1w h2w => ?_)
  · rcases (show i = 0 ∨ i = 1 ∨ i = 2 ∨ i = 3 ∨ i = 4 ∨ i = 5 ∨ i = 6 ∨ i = 7 ∨ i = 8 ∨ i = 9 by omega) with rfl | rfl | rfl | rfl | rfl | rfl | rfl | rfl | rfl | rfl <;> rw [J2.2 _ j rfl, J1.2 _ j rfl]
  · rw [J2.2 a w (wm_hi rfl (by omega))]; exact o1 w hw a p1 p2
  · rw [o2 w hw a p1 p2]; exact J1.2 a w (wm_lo rfl (by omega))
  · obtain ⟨u, hu⟩ : ∃ u, w = nW h + u := ⟨w - nW h, by omega⟩
    subst hu
    rw [gW] at h2w
    have l1 : u < (h1 4 7).toNatClampNeg - (h 4 7).toNatClampNeg := by show u < nW h1 - nW h; omega
    obtain ⟨x0, x1, x2, x3, x4, x5⟩ := a1 u l1
    obtain ⟨y1, y2, y3, y4, y5, y6, y7⟩ := a2 u (by rw [e7]; exact l1)
    have em2 : (h 4 7).toNatClampNeg = nW h := rfl
    rw [em2] at x1 x2 x3 x4 x5
    rw [J2.2 5 _ rfl, J2.2 6 _ rfl, J2.2 7 _ rfl, J2.2 8 _ rfl, x1, x2, x3, x4, y1, y2, y3, y4, ec _ (by omega), ec _ (by omega), ec _ (by omega), ec _ (by omega)]
    refine ⟨rfl, rfl, rfl, rfl, y5, y6, y7, ?_⟩
    rw [x1, x2, x3, ec (ixS f u + 1) (by omega), ec (ixS f u + 2) (by omega), ec (ixS f u) (by omega)] at x5
    exact x5

