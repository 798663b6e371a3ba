theorem ct_B (f : Nat → Int32) : ∀ n, n ≤ 12 → 0 ≤ (s_ct f n).toInt ∧ (s_ct f n).toInt ≤ (n : Int)
  | 0, _ => by show (0 : Int) ≤ (0 : Int32).toInt ∧ (0 : Int32).toInt ≤ ((0 : Nat) : Int); decide
  | n + 1, hn => by
    have ih := ct_B f n (by omega)
    have e1 : (1 : Int32).toInt = 1 := by decide
    unfold s_ct
    split
    · rw [Int32.add_zero]; omega
    · rw [w_add (by omega) (by omega)]; omega
theorem co_B (u : Nat) (f : Nat → Int32) : 0 ≤ (co u f).toInt ∧ (co u f).toInt ≤ 13 := by
  have z := ct_B f 12 (Nat.le_refl _)
  have e1 : (1 : Int32).toInt = 1 := by decide
  unfold co
  split
  · rw [Int32.add_zero]; omega
  · rw [w_add (by omega) (by omega)]; omega
theorem fr_co {E : Nat → Option (Nat → Int32)} : ∀ n x, fr E n = some x → 0 ≤ x.1.toInt
  | 0, x, e => by cases e
  | n + 1, x, e => by
    cases hE : E n with
    | none => rw [fr_n hE] at e; exact fr_co n x e
    | some tr =>
      cases hf : fr E n with
      | none => rw [fr_0 hE hf] at e; cases e; exact (co_B n tr).1
      | some y =>
        by_cases c : co n tr < y.1
        · rw [fr_l hE hf c] at e; cases e; exact (co_B n tr).1
        · rw [fr_g hE hf c] at e; cases e; exact fr_co n x hf
/-- the model's best so far -/
def FM (o : Option (Int32 × Nat × (Nat → Int32))) (q kq : Int32) (F : Hp) : Prop := (o = none → q = -4 ∧ kq = -4) ∧ ∀ x, o = some x → q = x.1 ∧ kq = lkM x.2.1 ∧ ∀ w, w < 12 → F 87 w = x.2.2 w
theorem FM.cg {o : Option (Int32 × Nat × (Nat → Int32))} {q kq : Int32} {F F1 : Hp} (h : FM o q kq F) (hJ : JW [(85, 999), (86, 999)] F F1) : FM o q kq F1 := ⟨h.1, fun x e => by
  obtain ⟨a, b, c⟩ := h.2 x e
  exact ⟨a, b, fun w hw => (hJ.2 87 w rfl).trans (c w hw)⟩⟩
theorem lkM_1 {u : Nat} (hu : u ≠ 0) : lkM u = nI u - 1 := by
  cases u with
  | zero => exact absurd rfl hu
  | succ j => rw [nI_m1]; rfl
theorem nn_of {x : Int32} (h : 0 ≤ x.toInt) : ¬ x < 0 := fun z => by
  have y := w_lt z
  have e0 : (0 : Int32).toInt = 0 := by decide
  omega
theorem ne4_of {x : Int32} (h : 0 ≤ x.toInt) : ¬ x = -4 := fun z => by
  rw [z] at h
  exact absurd h (by decide)
theorem u_nn {u : Nat} (hu : u ≠ 0) (hu2 : u ≤ 12) : ¬ nI u - 1 < 0 := by
  rw [← lkM_1 hu]
  cases u with
  | zero => exact absurd rfl hu
  | succ j => exact nI_nn (by omega)
/-- found is copied -/
def h_f7 (h : Hp) (n : Nat) : Hp := fun i j => if i = 87 ∧ j < n then h 85 j else h i j
theorem h_f7_0 (h : Hp) : h_f7 h 0 = h := by
  funext i j
  exact if_neg (fun q => Nat.not_lt_zero _ q.2)
theorem h_f7_85 (h : Hp) (n j : Nat) : h_f7 h n 85 j = h 85 j := if_neg (fun q => absurd q.1 (by decide))
theorem h_f7_s (h : Hp) (n : Nat) : ev_set (h_f7 h n) 87 n (h 85 n) = h_f7 h (n + 1) := by
  funext i j
  unfold h_f7 ev_set
  by_cases e : i = 87
  · subst e
    by_cases e2 : j = n
    · subst e2; simp
    · by_cases e3 : j < n
      · simp [e2, e3, Nat.lt_succ_of_lt e3]
      · simp [e2, e3, show ¬ j < n + 1 by omega]
  · simp [e]
theorem jw_f7 {W : List (Nat × Nat)} {h0 h : Hp} (hJ : JW W h0 h) (n : Nat) (hw : ∀ j, wm W 87 j = true) : JW W h0 (h_f7 h n) := by
  refine ⟨fun i j => ?_, fun i j q => ?_⟩
  · by_cases e : i = 87
    · subst e; exact B.any _
    · unfold h_f7; rw [if_neg (fun q => e q.1)]; exact hJ.1 i j
  · by_cases e : i = 87
    · subst e; rw [hw j] at q; cases q
    · unfold h_f7; rw [if_neg (fun q => e q.1)]; exact hJ.2 i j q

set_option maxRecDepth 100000 in
set_option maxHeartbeats 4000000 in
theorem l_cpy (L : Nat) (b : Bool) (h : Hp) (n s : Nat) (k p l f q : Int32) (a8 a9 a10 a11 a12 : Option Value) (x13 : Int32) (Q : Pst) : ∀ t i : Nat, i + t = 12 → EvQ mi_X10_blame 319 [some (.ref 63), some (.int (nI n)), some (.int k), some (.int p), some (.int (nI s)), some (.int l), some (.int f), some (.int q), a8, a9, a10, a11, a12, some (.int x13), none] [] (G0 L b) (h_f7 h 12) 0 0 Q → EvQ mi_X10_blame 292 [some (.ref 63), some (.int (nI n)), some (.int k), some (.int p), some (.int (nI s)), some (.int l), some (.int f), some (.int q), a8, a9, a10, a11, a12, some (.int x13), some (.int (nI i))] [] (G0 L b) (h_f7 h i) 0 0 Q := by
  intro t
  induction t with
  | zero =>
    intro i hi kk
    have hi2 : i = 12 := by omega
    subst hi2
    refine ev_iload rfl rfl rfl ?_
    refine ev_bipush (v := 12) rfl rfl (by decide) ?_
    refine ev_icmp_ge rfl rfl (fun c_296 => ?_) (fun z_ => absurd (show nI 12 ≤ nI 12 from Int32.le_refl _) z_)
    exact EvQ.drop 14 kk
  | succ t ih =>
    intro i hi kk
    refine ev_iload rfl rfl rfl ?_
    refine ev_bipush (v := 12) rfl rfl (by decide) ?_
    refine ev_icmp_ge rfl rfl (fun z_ => absurd z_ (show ¬ nI 12 ≤ nI i from nI_ge (by omega) (by omega))) (fun c_296 => ?_)
    refine ev_aload_n rfl rfl rfl ?_
    refine ev_getR rfl rfl fl_X10_94 rfl rfl rfl rfl ?_
    refine ev_iload rfl rfl rfl ?_
    refine ev_aload_n rfl rfl rfl ?_
    refine ev_getR rfl rfl fl_X10_88 rfl rfl rfl rfl ?_
    refine ev_iload rfl rfl rfl ?_
    refine ev_iald rfl rfl rfl (vp_in_nI (by omega) (by decide)) (nI_clamp (by omega)) ?_
    try simp only [h_f7_85]
    refine ev_iast rfl rfl rfl rfl (vp_in_nI (by omega) (by decide)) (nI_clamp (by omega)) ?_
    refine ev_iinc (y := 1) rfl rfl rfl (by decide) rfl rfl ?_
    dsimp only [List.set]
    refine ev_goto rfl rfl ?_
    rw [h_f7_s, nI_1 i]
    exact ih (i + 1) (by omega) kk

def bE (f : Nat → Int32) (a8 a9 q : Int32) : Int32 := if q = 0 then a8 else if q = 1 then a9 else if q = 2 then s_cb f 12 else f (q - 20).toNatClampNeg

set_option maxRecDepth 100000 in
set_option maxHeartbeats 4000000 in
theorem l_bts (L : Nat) (b : Bool) (H : Hp) (n s : Nat) (k p l f q : Int32) (hq : B q 0 2 ∨ B q 20 31) (a8 a9 : Int32) (a12 a13 a14 : Option Value) : ∀ t i : Nat, i + t = 12 → EvQ mi_X10_blame 342 [some (.ref 63), some (.int (nI n)), some (.int k), some (.int p), some (.int (nI s)), some (.int l), some (.int f), some (.int q), some (.int a8), some (.int a9), some (.int (s_cb (H 87) i)), some (.int (nI i)), a12, a13, a14] [] (G0 L b) H 0 0 (fun v G' h' => v = some (.int (bE (H 87) a8 a9 q)) ∧ G' = G0 L b ∧ h' = H) := by
  intro t
  induction t with
  | zero =>
    intro i hi
    have hi2 : i = 12 := by omega
    subst hi2
    refine ev_iload rfl rfl rfl ?_
    refine ev_bipush (v := 12) rfl rfl (by decide) ?_
    refine ev_icmp_ge rfl rfl (fun c_346 => ?_) (fun z_ => absurd (show nI 12 ≤ nI 12 from Int32.le_refl _) z_)
    refine ev_iload rfl rfl rfl ?_
    refine ev_if_ne rfl rfl (fun c_380 => ?_) (fun c_380 => ?_)
    · refine ev_iload rfl rfl rfl ?_
      refine ev_iconst (v := 1) rfl rfl (by decide) ?_
      refine ev_icmp_ne rfl rfl (fun c_391 => ?_) (fun c_391 => ?_)
      · refine ev_iload rfl rfl rfl ?_
        refine ev_iconst (v := 2) rfl rfl (by decide) ?_
        refine ev_icmp_ne rfl rfl (fun c_402 => ?_) (fun c_402 => ?_)
        · refine ev_aload_n rfl rfl rfl ?_
          refine ev_getR rfl rfl fl_X10_94 rfl rfl rfl rfl ?_
          refine ev_iload rfl rfl rfl ?_
          refine ev_bipush (v := 20) rfl rfl (by decide) ?_
          refine ev_isub rfl rfl ?_
          refine ev_iald rfl rfl rfl ((z_q20 hq c_380 c_391 c_402).vp (by decide) (by decide)) rfl ?_
          exact ev_iret rfl rfl rfl (⟨congrArg (fun z => some (Value.int z)) (by simp only [bE, if_pos c_346, if_neg c_380, if_neg c_391, if_neg c_402]), rfl, rfl⟩)
        · refine ev_iload rfl rfl rfl ?_
          refine ev_goto rfl rfl ?_
          exact ev_iret rfl rfl rfl (⟨congrArg (fun z => some (Value.int z)) (by simp only [bE, if_pos c_346, if_neg c_380, if_neg c_391, if_pos c_402]), rfl, rfl⟩)
      · refine ev_iload rfl rfl rfl ?_
        refine ev_goto rfl rfl ?_
        exact ev_iret rfl rfl rfl (⟨congrArg (fun z => some (Value.int z)) (by simp only [bE, if_pos c_346, if_neg c_380, if_pos c_391]), rfl, rfl⟩)
    · refine ev_iload rfl rfl rfl ?_
      refine ev_goto rfl rfl ?_
      exact ev_iret rfl rfl rfl (⟨congrArg (fun z => some (Value.int z)) (by simp only [bE, if_pos c_346, if_pos c_380]), rfl, rfl⟩)
  | succ t ih =>
    intro i hi
    refine ev_iload rfl rfl rfl ?_
    refine ev_bipush (v := 12) rfl rfl (by decide) ?_
    refine ev_icmp_ge rfl rfl (fun z_ => absurd z_ (show ¬ nI 12 ≤ nI i from nI_ge (by omega) (by omega))) (fun c_346 => ?_)
    refine ev_iload rfl rfl rfl ?_
    refine ev_aload_n rfl rfl rfl ?_
    refine ev_getR rfl rfl fl_X10_94 rfl rfl rfl rfl ?_
    refine ev_iload rfl rfl rfl ?_
    refine ev_iald rfl rfl rfl (vp_in_nI (by omega) (by decide)) (nI_clamp (by omega)) ?_
    refine ev_if_ne rfl rfl (fun c_358 => ?_) (fun c_358 => ?_)
    · refine ev_iconst (v := 1) rfl rfl (by decide) ?_
      refine ev_iload rfl rfl rfl ?_
      refine ev_ishl rfl rfl ?_
      refine ev_ior rfl rfl ?_
      refine ev_istore rfl rfl rfl rfl ?_
      dsimp only [List.set]
      refine ev_iinc (y := 1) rfl rfl rfl (by decide) rfl rfl ?_
      dsimp only [List.set]
      refine ev_goto rfl rfl ?_
      have z_ := ih (i + 1) (by omega)
      simp only [s_cb, if_neg c_346, if_neg c_358] at z_
      rw [nI_1 i]
      exact z_
    · refine ev_iconst (v := 0) rfl rfl (by decide) ?_
      refine ev_goto rfl rfl ?_
      refine ev_ior rfl rfl ?_
      refine ev_istore rfl rfl rfl rfl ?_
      dsimp only [List.set]
      refine ev_iinc (y := 1) rfl rfl rfl (by decide) rfl rfl ?_
      dsimp only [List.set]
      refine ev_goto rfl rfl ?_
      have z_ := ih (i + 1) (by omega)
      simp only [s_cb, if_neg c_346, if_pos c_358] at z_
      rw [nI_1 i]
      exact z_

def eM (h : Hp) (m M : Nat) (c v : Nat → Int32) (p : Int32) (u : Nat) : Option (Nat → Int32) := xs c v (xC h) (dM_ h m (lkM u)) M 0 p (fun _ => false) (fun _ => 0)
theorem c_mexE (L : Nat) (b : Bool) (h : Hp) (n : Nat) (hn : n < 6) (s : Nat) (hs : s < 4) (k p l f q : Int32) (hq : B q 0 2 ∨ B q 20 31) (hp : B p 0 200) (M : Nat) (hM : M ≤ 24) (e73 : h 73 n = nI M) (c v : Nat → Int32) (ec : ∀ i, i < M → z_mv (h 74 (24 * n + i)) k = c i) (bc : ∀ i, i < M → B (c i) 0 4095) (ev1 : ∀ i, i < M → ¬ c i = 0 → ∃ x, x < 60 ∧ f + nI i = nI x ∧ h 94 (60 * s + x) = v i) (m : Nat) (hm0 : m ≤ 12) (hm : h 63 5 = nI m) (hw : ∀ i, i < M → ¬ c i = 0 → RW1 h (lw (c i)) ∧ B (h 9 (lw (c i))) (-100) 100) (F : Hp) (hJ : JW [(85, 999), (86, 999), (87, 999)] h F) (u : Nat) : EvI mi_X10_explains [.ref 63, .int (nI n), .int k, .int p, .int (nI s), .int f, .int (lkM u)] (G0 L b) F (fun r z => XM ((eM h m M c v p) u) r (z 85)) [(85, 999), (86, 999)] := by
  have fx : xC F = xC h := funext (fun w => funext (fun p => funext (fun v => xC_cg (hJ.2 5 w rfl) (hJ.2 9 w rfl) (hJ.2 7 w rfl) p v)))
  have fd : dM_ F m (lkM u) = dM_ h m (lkM u) := funext (fun p => funext (fun c => by
    unfold dM_ zth
    rw [hJ.2 63 2 rfl, hJ.2 63 3 rfl, dw_cg (fun k => hJ.2 65 k rfl)]))
  have z := c_mexpl L b F hJ.1 n hn s hs k p f (lkM u) M hM ((hJ.2 73 n rfl).trans e73) c v (fun i hi => by rw [hJ.2 74 _ rfl]; exact ec i hi) bc (fun i hi h0 => by
    obtain ⟨x, a1, a2, a3⟩ := ev1 i hi h0
    exact ⟨x, a1, a2, (hJ.2 94 _ rfl).trans a3⟩) m hm0 ((hJ.2 63 5 rfl).trans hm) (fun i hi h0 => by
    obtain ⟨a, b⟩ := hw i hi h0
    refine ⟨?_, by rw [hJ.2 9 _ rfl]; exact b⟩
    unfold RW1 at a ⊢
    rw [hJ.2 5 _ rfl, hJ.2 6 _ rfl, hJ.2 7 _ rfl, hJ.2 8 _ rfl, hJ.2 9 _ rfl, hJ.2 10 _ rfl, hJ.2 4 6 rfl, hJ.2 64 _ rfl, hJ.2 65 _ rfl, hJ.2 66 _ rfl, hJ.2 67 _ rfl, hJ.2 68 _ rfl, hJ.2 69 _ rfl, hJ.2 70 _ rfl]
    exact a) hp
  rw [fx, fd] at z
  exact z
theorem c_mexE1 (L : Nat) (b : Bool) (h : Hp) (n : Nat) (hn : n < 6) (s : Nat) (hs : s < 4) (k p l f q : Int32) (hq : B q 0 2 ∨ B q 20 31) (hp : B p 0 200) (M : Nat) (hM : M ≤ 24) (e73 : h 73 n = nI M) (c v : Nat → Int32) (ec : ∀ i, i < M → z_mv (h 74 (24 * n + i)) k = c i) (bc : ∀ i, i < M → B (c i) 0 4095) (ev1 : ∀ i, i < M → ¬ c i = 0 → ∃ x, x < 60 ∧ f + nI i = nI x ∧ h 94 (60 * s + x) = v i) (m : Nat) (hm0 : m ≤ 12) (hm : h 63 5 = nI m) (hw : ∀ i, i < M → ¬ c i = 0 → RW1 h (lw (c i)) ∧ B (h 9 (lw (c i))) (-100) 100) (F : Hp) (hJ : JW [(85, 999), (86, 999), (87, 999)] h F) (u : Nat) (hu0 : u ≠ 0) : EvI mi_X10_explains [.ref 63, .int (nI n), .int k, .int p, .int (nI s), .int f, .int (nI u - 1)] (G0 L b) F (fun r z => XM ((eM h m M c v p) u) r (z 85)) [(85, 999), (86, 999)] := by
  rw [← lkM_1 hu0]
  exact c_mexE L b h n hn s hs k p l f q hq hp M hM e73 c v ec bc ev1 m hm0 hm hw F hJ u
theorem bE_b {g : Nat → Int32} {x : Int32 × Nat × (Nat → Int32)} {q : Int32} (hq : B q 0 2 ∨ B q 20 31) (x3 : ∀ w, w < 12 → g w = x.2.2 w) : bE g x.1 (lkM x.2.1) q = bA x q := by
  unfold bE bA
  by_cases q0 : q = 0
  · rw [if_pos q0, if_pos q0]
  by_cases q1 : q = 1
  · rw [if_neg q0, if_neg q0, if_pos q1, if_pos q1]
    by_cases u0 : x.2.1 = 0
    · rw [if_pos u0, u0]; rfl
    · rw [if_neg u0, lkM_1 u0]
  by_cases q2 : q = 2
  · rw [if_neg q0, if_neg q0, if_neg q1, if_neg q1, if_pos q2, if_pos q2]
    exact s_cb_cg 12 x3
  rw [if_neg q0, if_neg q0, if_neg q1, if_neg q1, if_neg q2, if_neg q2]
  have p : B (q - 20) 0 ((11 : Nat) : Int) := z_q20 hq q0 q1 q2
  exact x3 _ (by have := (B.nI p).2; omega)

theorem nn_u0 {u : Nat} (hu : u = 0) : ¬ 0 ≤ nI u - 1 := by rw [hu]; decide
set_option maxRecDepth 100000 in
set_option maxHeartbeats 4000000 in
theorem l_mbl (L : Nat) (b : Bool) (h : Hp) (n : Nat) (hn : n < 6) (s : Nat) (hs : s < 4) (k p l f q : Int32) (hq : B q 0 2 ∨ B q 20 31) (hp : B p 0 200) (M : Nat) (hM : M ≤ 24) (e73 : h 73 n = nI M) (c v : Nat → Int32) (ec : ∀ i, i < M → z_mv (h 74 (24 * n + i)) k = c i) (bc : ∀ i, i < M → B (c i) 0 4095) (ev1 : ∀ i, i < M → ¬ c i = 0 → ∃ x, x < 60 ∧ f + nI i = nI x ∧ h 94 (60 * s + x) = v i) (m : Nat) (hm0 : m ≤ 12) (hm : h 63 5 = nI m) (hw : ∀ i, i < M → ¬ c i = 0 → RW1 h (lw (c i)) ∧ B (h 9 (lw (c i))) (-100) 100) : ∀ (t u : Nat) (a8 a9 : Int32) (F : Hp), u + t = m + 1 → JW [(85, 999), (86, 999), (87, 999)] h F → FM (fr (eM h m M c v p) u) a8 a9 F → EvQ mi_X10_blame 199 [some (.ref 63), some (.int (nI n)), some (.int k), some (.int p), some (.int (nI s)), some (.int l), some (.int f), some (.int q), some (.int a8), some (.int a9), some (.int (nI u - 1)), none, none, none, none] [] (G0 L b) F 0 0 (QI (fun r _ => (fr (eM h m M c v p) (m + 1) = none → r = -1004) ∧ ∀ x, fr (eM h m M c v p) (m + 1) = some x → r = bA x q) [(85, 999), (86, 999), (87, 999)] (G0 L b) h) := by
  intro t
  induction t with
  | zero =>
    intro u a8 a9 F hu hJ hS
    have hu2 : u = m + 1 := by omega
    subst hu2
    have e5 : F 63 5 = nI m := (hJ.2 63 5 rfl).trans hm
    cases hf : fr (eM h m M c v p) (m + 1) with
    | none =>
      have s0 := hS.1 hf
      refine ev_iload rfl rfl rfl ?_
      refine ev_aload_n rfl rfl rfl ?_
      refine ev_getI rfl rfl fl_X10_121 rfl rfl rfl ?_
      try simp only [e5]
      refine ev_icmp_ge rfl rfl (fun c_205 => ?_) (fun z_ => absurd (by rw [nI_m1]; exact Int32.le_refl _) z_)
      refine ev_iload rfl rfl rfl ?_
      refine ev_bipush (v := (-4)) rfl rfl (by decide) ?_
      refine ev_icmp_ne rfl rfl (fun z_ => absurd s0.1 z_) (fun c_329 => ?_)
      refine ev_sipush (v := (-1004)) rfl rfl (by decide) ?_
      exact ev_iret rfl rfl rfl (⟨⟨_, rfl, fun _ => rfl, fun x_ e_ => by cases e_⟩, rfl, hJ⟩)
    | some x =>
      obtain ⟨s1, s2, s3⟩ := hS.2 x hf
      refine ev_iload rfl rfl rfl ?_
      refine ev_aload_n rfl rfl rfl ?_
      refine ev_getI rfl rfl fl_X10_121 rfl rfl rfl ?_
      try simp only [e5]
      refine ev_icmp_ge rfl rfl (fun c_205 => ?_) (fun z_ => absurd (by rw [nI_m1]; exact Int32.le_refl _) z_)
      refine ev_iload rfl rfl rfl ?_
      refine ev_bipush (v := (-4)) rfl rfl (by decide) ?_
      refine ev_icmp_ne rfl rfl (fun c_329 => ?_) (fun z_ => absurd z_ (by rw [s1]; exact ne4_of (fr_co _ _ hf)))
      refine ev_iconst (v := 0) rfl rfl (by decide) ?_
      refine ev_istore rfl rfl rfl rfl ?_
      dsimp only [List.set]
      refine ev_iconst (v := 0) rfl rfl (by decide) ?_
      refine ev_istore rfl rfl rfl rfl ?_
      dsimp only [List.set]
      refine EvQ.mono (l_bts L b F n s k p l f q hq a8 a9 _ _ _ 12 0 (by omega)) (Nat.le_refl _) (Nat.le_refl _) (fun v_ G_ h_ q_ => ?_)
      obtain ⟨rfl, rfl, rfl⟩ := q_
      exact ⟨⟨_, rfl, fun e_ => (by cases e_), fun x_ e_ => by cases e_; rw [s1, s2]; exact bE_b hq s3⟩, rfl, hJ⟩
  | succ t ih =>
    intro u a8 a9 F hu hJ hS
    have e5 : F 63 5 = nI m := (hJ.2 63 5 rfl).trans hm
    by_cases hu0 : u = 0
    · skip
      refine ev_iload rfl rfl rfl ?_
      refine ev_aload_n rfl rfl rfl ?_
      refine ev_getI rfl rfl fl_X10_121 rfl rfl rfl ?_
      try simp only [e5]
      refine ev_icmp_ge rfl rfl (fun z_ => absurd z_ (u_ge (by omega) hm0)) (fun c_205 => ?_)
      refine ev_iload rfl rfl rfl ?_
      refine ev_if_ge rfl rfl (fun z_ => absurd z_ (nn_u0 hu0)) (fun c_210 => ?_)
      refine ev_bipush (v := (-4)) rfl rfl (by decide) ?_
      refine ev_goto rfl rfl ?_
      rw [show (-4 : Int32) = lkM u from by rw [hu0]; rfl]
      refine ev_istore rfl rfl rfl rfl ?_
      dsimp only [List.set]
      refine ev_aload_n rfl rfl rfl ?_
      refine ev_iload_n rfl rfl rfl ?_
      refine ev_iload_n rfl rfl rfl ?_
      refine ev_iload_n rfl rfl rfl ?_
      refine ev_iload rfl rfl rfl ?_
      refine ev_iload rfl rfl rfl ?_
      refine ev_iload rfl rfl rfl ?_
      refine ev_V6I hJ rfl rfl rfl lk_X10_338 vt_X10_explains rfl rfl rfl rfl rfl (c_mexE L b h n hn s hs k p l f q hq hp M hM e73 c v ec bc ev1 m hm0 hm hw F hJ u) (fun r1 F1 q1 j1 k1 => ?_)
      cases hE : (eM h m M c v p) u with
      | none =>
        have r0 := q1.1 hE
        refine ev_istore rfl rfl rfl rfl ?_
        dsimp only [List.set]
        refine ev_iload rfl rfl rfl ?_
        refine ev_if_ge rfl rfl (fun z_ => absurd z_ (by rw [r0]; decide)) (fun c_239 => ?_)
        refine ev_bipush (v := (-4)) rfl rfl (by decide) ?_
        refine ev_goto rfl rfl ?_
        refine ev_istore rfl rfl rfl rfl ?_
        dsimp only [List.set]
        refine ev_iload rfl rfl rfl ?_
        refine ev_if_lt rfl rfl (fun c_264 => ?_) (fun z_ => absurd (by decide) z_)
        refine ev_iinc (y := 1) rfl rfl rfl (by decide) rfl rfl ?_
        dsimp only [List.set]
        refine ev_goto rfl rfl ?_
        have hS3 : FM (fr (eM h m M c v p) (u + 1)) a8 a9 F1 := by rw [fr_n hE]; exact hS.cg k1
        rw [nI_u1]
        exact EvQ.drop 14 (EvQ.drop 13 (EvQ.drop 12 (EvQ.drop 11 (ih (u + 1) a8 a9 F1 (by omega) j1 hS3))))
      | some tr =>
        obtain ⟨r0, e85⟩ := q1.2 tr hE
        have ecost : co u tr = s_ct tr 12 + 0 := if_pos hu0
        cases hf : fr (eM h m M c v p) u with
        | none =>
          have s0 := hS.1 hf
          refine ev_istore rfl rfl rfl rfl ?_
          dsimp only [List.set]
          refine ev_iload rfl rfl rfl ?_
          refine ev_if_ge rfl rfl (fun c_239 => ?_) (fun z_ => absurd (by rw [r0]; exact Int32.not_lt.mp (nn_of (ct_B tr 12 (Nat.le_refl _)).1)) z_)
          refine ev_iload rfl rfl rfl ?_
          refine ev_iload rfl rfl rfl ?_
          refine ev_if_ge rfl rfl (fun z_ => absurd z_ (nn_u0 hu0)) (fun c_251 => ?_)
          refine ev_iconst (v := 0) rfl rfl (by decide) ?_
          refine ev_goto rfl rfl ?_
          refine ev_iadd rfl rfl ?_
          refine ev_istore rfl rfl rfl rfl ?_
          dsimp only [List.set]
          refine ev_iload rfl rfl rfl ?_
          refine ev_if_lt rfl rfl (fun z_ => absurd z_ (by rw [r0, ← ecost]; exact nn_of (co_B u tr).1)) (fun c_264 => ?_)
          refine ev_iload rfl rfl rfl ?_
          refine ev_bipush (v := (-4)) rfl rfl (by decide) ?_
          refine ev_icmp_eq rfl rfl (fun c_271 => ?_) (fun z_ => absurd s0.1 z_)
          refine ev_iload rfl rfl rfl ?_
          refine ev_istore rfl rfl rfl rfl ?_
          dsimp only [List.set]
          refine ev_iload rfl rfl rfl ?_
          refine ev_istore rfl rfl rfl rfl ?_
          dsimp only [List.set]
          refine ev_iconst (v := 0) rfl rfl (by decide) ?_
          refine ev_istore rfl rfl rfl rfl ?_
          dsimp only [List.set]
          rw [r0]
          have hS3 : FM (fr (eM h m M c v p) (u + 1)) (co u tr) (lkM u) (h_f7 F1 12) := by
            rw [fr_0 hE hf]
            refine ⟨fun z => (by cases z), fun x e => ?_⟩
            cases e
            exact ⟨rfl, rfl, fun w hw_ => (if_pos ⟨rfl, hw_⟩).trans (e85 w hw_)⟩
          rw [← ecost]
          refine EvQ.hp (h_f7 F1 0) (h_f7_0 F1).symm ?_
          refine l_cpy L b F1 n s k p l f q _ _ _ _ _ _ _ 12 0 (by omega) ?_
          refine ev_iinc (y := 1) rfl rfl rfl (by decide) rfl rfl ?_
          dsimp only [List.set]
          refine ev_goto rfl rfl ?_
          rw [nI_u1]
          exact EvQ.drop 14 (EvQ.drop 13 (EvQ.drop 12 (EvQ.drop 11 (ih (u + 1) (co u tr) (lkM u) (h_f7 F1 12) (by omega) (jw_f7 j1 12 (fun _ => rfl)) hS3))))
        | some x =>
          obtain ⟨s1, s2, s3⟩ := hS.2 x hf
          refine ev_istore rfl rfl rfl rfl ?_
          dsimp only [List.set]
          refine ev_iload rfl rfl rfl ?_
          refine ev_if_ge rfl rfl (fun c_239 => ?_) (fun z_ => absurd (by rw [r0]; exact Int32.not_lt.mp (nn_of (ct_B tr 12 (Nat.le_refl _)).1)) z_)
          refine ev_iload rfl rfl rfl ?_
          refine ev_iload rfl rfl rfl ?_
          refine ev_if_ge rfl rfl (fun z_ => absurd z_ (nn_u0 hu0)) (fun c_251 => ?_)
          refine ev_iconst (v := 0) rfl rfl (by decide) ?_
          refine ev_goto rfl rfl ?_
          refine ev_iadd rfl rfl ?_
          refine ev_istore rfl rfl rfl rfl ?_
          dsimp only [List.set]
          refine ev_iload rfl rfl rfl ?_
          refine ev_if_lt rfl rfl (fun z_ => absurd z_ (by rw [r0, ← ecost]; exact nn_of (co_B u tr).1)) (fun c_264 => ?_)
          refine ev_iload rfl rfl rfl ?_
          refine ev_bipush (v := (-4)) rfl rfl (by decide) ?_
          refine ev_icmp_eq rfl rfl (fun z_ => absurd z_ (by rw [s1]; exact ne4_of (fr_co _ _ hf))) (fun c_271 => ?_)
          refine ev_iload rfl rfl rfl ?_
          refine ev_iload rfl rfl rfl ?_
          refine ev_icmp_ge rfl rfl (fun c_278 => ?_) (fun c_278 => ?_)
          · refine ev_iinc (y := 1) rfl rfl rfl (by decide) rfl rfl ?_
            dsimp only [List.set]
            refine ev_goto rfl rfl ?_
            have hS3 : FM (fr (eM h m M c v p) (u + 1)) a8 a9 F1 := by rw [fr_g hE hf (by rw [ecost]; rw [r0, s1] at c_278; exact Int32.not_lt.mpr c_278), ← hf]; exact hS.cg k1
            rw [nI_u1]
            exact EvQ.drop 14 (EvQ.drop 13 (EvQ.drop 12 (EvQ.drop 11 (ih (u + 1) a8 a9 F1 (by omega) j1 hS3))))
          · refine ev_iload rfl rfl rfl ?_
            refine ev_istore rfl rfl rfl rfl ?_
            dsimp only [List.set]
            refine ev_iload rfl rfl rfl ?_
            refine ev_istore rfl rfl rfl rfl ?_
            dsimp only [List.set]
            refine ev_iconst (v := 0) rfl rfl (by decide) ?_
            refine ev_istore rfl rfl rfl rfl ?_
            dsimp only [List.set]
            have cl_ := Int32.not_le.mp c_278
            rw [r0, s1, ← ecost] at cl_
            rw [r0]
            have hS3 : FM (fr (eM h m M c v p) (u + 1)) (co u tr) (lkM u) (h_f7 F1 12) := by
              rw [fr_l hE hf cl_]
              refine ⟨fun z => (by cases z), fun x e => ?_⟩
              cases e
              exact ⟨rfl, rfl, fun w hw_ => (if_pos ⟨rfl, hw_⟩).trans (e85 w hw_)⟩
            rw [← ecost]
            refine EvQ.hp (h_f7 F1 0) (h_f7_0 F1).symm ?_
            refine l_cpy L b F1 n s k p l f q _ _ _ _ _ _ _ 12 0 (by omega) ?_
            refine ev_iinc (y := 1) rfl rfl rfl (by decide) rfl rfl ?_
            dsimp only [List.set]
            refine ev_goto rfl rfl ?_
            rw [nI_u1]
            exact EvQ.drop 14 (EvQ.drop 13 (EvQ.drop 12 (EvQ.drop 11 (ih (u + 1) (co u tr) (lkM u) (h_f7 F1 12) (by omega) (jw_f7 j1 12 (fun _ => rfl)) hS3))))
    · skip
      refine ev_iload rfl rfl rfl ?_
      refine ev_aload_n rfl rfl rfl ?_
      refine ev_getI rfl rfl fl_X10_121 rfl rfl rfl ?_
      try simp only [e5]
      refine ev_icmp_ge rfl rfl (fun z_ => absurd z_ (u_ge (by omega) hm0)) (fun c_205 => ?_)
      refine ev_iload rfl rfl rfl ?_
      refine ev_if_ge rfl rfl (fun c_210 => ?_) (fun z_ => absurd (Int32.not_lt.mp (u_nn hu0 (by omega))) z_)
      refine ev_iload rfl rfl rfl ?_
      skip
      refine ev_istore rfl rfl rfl rfl ?_
      dsimp only [List.set]
      refine ev_aload_n rfl rfl rfl ?_
      refine ev_iload_n rfl rfl rfl ?_
      refine ev_iload_n rfl rfl rfl ?_
      refine ev_iload_n rfl rfl rfl ?_
      refine ev_iload rfl rfl rfl ?_
      refine ev_iload rfl rfl rfl ?_
      refine ev_iload rfl rfl rfl ?_
      refine ev_V6I hJ rfl rfl rfl lk_X10_338 vt_X10_explains rfl rfl rfl rfl rfl (c_mexE1 L b h n hn s hs k p l f q hq hp M hM e73 c v ec bc ev1 m hm0 hm hw F hJ u hu0) (fun r1 F1 q1 j1 k1 => ?_)
      cases hE : (eM h m M c v p) u with
      | none =>
        have r0 := q1.1 hE
        refine ev_istore rfl rfl rfl rfl ?_
        dsimp only [List.set]
        refine ev_iload rfl rfl rfl ?_
        refine ev_if_ge rfl rfl (fun z_ => absurd z_ (by rw [r0]; decide)) (fun c_239 => ?_)
        refine ev_bipush (v := (-4)) rfl rfl (by decide) ?_
        refine ev_goto rfl rfl ?_
        refine ev_istore rfl rfl rfl rfl ?_
        dsimp only [List.set]
        refine ev_iload rfl rfl rfl ?_
        refine ev_if_lt rfl rfl (fun c_264 => ?_) (fun z_ => absurd (by decide) z_)
        refine ev_iinc (y := 1) rfl rfl rfl (by decide) rfl rfl ?_
        dsimp only [List.set]
        refine ev_goto rfl rfl ?_
        have hS3 : FM (fr (eM h m M c v p) (u + 1)) a8 a9 F1 := by rw [fr_n hE]; exact hS.cg k1
        rw [nI_u1]
        exact EvQ.drop 14 (EvQ.drop 13 (EvQ.drop 12 (EvQ.drop 11 (ih (u + 1) a8 a9 F1 (by omega) j1 hS3))))
      | some tr =>
        obtain ⟨r0, e85⟩ := q1.2 tr hE
        have ecost : co u tr = s_ct tr 12 + 1 := if_neg hu0
        cases hf : fr (eM h m M c v p) u with
        | none =>
          have s0 := hS.1 hf
          refine ev_istore rfl rfl rfl rfl ?_
          dsimp only [List.set]
          refine ev_iload rfl rfl rfl ?_
          refine ev_if_ge rfl rfl (fun c_239 => ?_) (fun z_ => absurd (by rw [r0]; exact Int32.not_lt.mp (nn_of (ct_B tr 12 (Nat.le_refl _)).1)) z_)
          refine ev_iload rfl rfl rfl ?_
          refine ev_iload rfl rfl rfl ?_
          refine ev_if_ge rfl rfl (fun c_251 => ?_) (fun z_ => absurd (Int32.not_lt.mp (u_nn hu0 (by omega))) z_)
          refine ev_iconst (v := 1) rfl rfl (by decide) ?_
          refine ev_iadd rfl rfl ?_
          refine ev_istore rfl rfl rfl rfl ?_
          dsimp only [List.set]
          refine ev_iload rfl rfl rfl ?_
          refine ev_if_lt rfl rfl (fun z_ => absurd z_ (by rw [r0, ← ecost]; exact nn_of (co_B u tr).1)) (fun c_264 => ?_)
          refine ev_iload rfl rfl rfl ?_
          refine ev_bipush (v := (-4)) rfl rfl (by decide) ?_
          refine ev_icmp_eq rfl rfl (fun c_271 => ?_) (fun z_ => absurd s0.1 z_)
          refine ev_iload rfl rfl rfl ?_
          refine ev_istore rfl rfl rfl rfl ?_
          dsimp only [List.set]
          refine ev_iload rfl rfl rfl ?_
          refine ev_istore rfl rfl rfl rfl ?_
          dsimp only [List.set]
          refine ev_iconst (v := 0) rfl rfl (by decide) ?_
          refine ev_istore rfl rfl rfl rfl ?_
          dsimp only [List.set]
          rw [r0]
          have hS3 : FM (fr (eM h m M c v p) (u + 1)) (co u tr) (nI u - 1) (h_f7 F1 12) := by
            rw [fr_0 hE hf]
            refine ⟨fun z => (by cases z), fun x e => ?_⟩
            cases e
            exact ⟨rfl, (lkM_1 hu0).symm, fun w hw_ => (if_pos ⟨rfl, hw_⟩).trans (e85 w hw_)⟩
          rw [← ecost]
          refine EvQ.hp (h_f7 F1 0) (h_f7_0 F1).symm ?_
          refine l_cpy L b F1 n s k p l f q _ _ _ _ _ _ _ 12 0 (by omega) ?_
          refine ev_iinc (y := 1) rfl rfl rfl (by decide) rfl rfl ?_
          dsimp only [List.set]
          refine ev_goto rfl rfl ?_
          rw [nI_u1]
          exact EvQ.drop 14 (EvQ.drop 13 (EvQ.drop 12 (EvQ.drop 11 (ih (u + 1) (co u tr) (nI u - 1) (h_f7 F1 12) (by omega) (jw_f7 j1 12 (fun _ => rfl)) hS3))))
        | some x =>
          obtain ⟨s1, s2, s3⟩ := hS.2 x hf
          refine ev_istore rfl rfl rfl rfl ?_
          dsimp only [List.set]
          refine ev_iload rfl rfl rfl ?_
          refine ev_if_ge rfl rfl (fun c_239 => ?_) (fun z_ => absurd (by rw [r0]; exact Int32.not_lt.mp (nn_of (ct_B tr 12 (Nat.le_refl _)).1)) z_)
          refine ev_iload rfl rfl rfl ?_
          refine ev_iload rfl rfl rfl ?_
          refine ev_if_ge rfl rfl (fun c_251 => ?_) (fun z_ => absurd (Int32.not_lt.mp (u_nn hu0 (by omega))) z_)
          refine ev_iconst (v := 1) rfl rfl (by decide) ?_
          refine ev_iadd rfl rfl ?_
          refine ev_istore rfl rfl rfl rfl ?_
          dsimp only [List.set]
          refine ev_iload rfl rfl rfl ?_
          refine ev_if_lt rfl rfl (fun z_ => absurd z_ (by rw [r0, ← ecost]; exact nn_of (co_B u tr).1)) (fun c_264 => ?_)
          refine ev_iload rfl rfl rfl ?_
          refine ev_bipush (v := (-4)) rfl rfl (by decide) ?_
          refine ev_icmp_eq rfl rfl (fun z_ => absurd z_ (by rw [s1]; exact ne4_of (fr_co _ _ hf))) (fun c_271 => ?_)
          refine ev_iload rfl rfl rfl ?_
          refine ev_iload rfl rfl rfl ?_
          refine ev_icmp_ge rfl rfl (fun c_278 => ?_) (fun c_278 => ?_)
          · refine ev_iinc (y := 1) rfl rfl rfl (by decide) rfl rfl ?_
            dsimp only [List.set]
            refine ev_goto rfl rfl ?_
            have hS3 : FM (fr (eM h m M c v p) (u + 1)) a8 a9 F1 := by rw [fr_g hE hf (by rw [ecost]; rw [r0, s1] at c_278; exact Int32.not_lt.mpr c_278), ← hf]; exact hS.cg k1
            rw [nI_u1]
            exact EvQ.drop 14 (EvQ.drop 13 (EvQ.drop 12 (EvQ.drop 11 (ih (u + 1) a8 a9 F1 (by omega) j1 hS3))))
          · refine ev_iload rfl rfl rfl ?_
            refine ev_istore rfl rfl rfl rfl ?_
            dsimp only [List.set]
            refine ev_iload rfl rfl rfl ?_
            refine ev_istore rfl rfl rfl rfl ?_
            dsimp only [List.set]
            refine ev_iconst (v := 0) rfl rfl (by decide) ?_
            refine ev_istore rfl rfl rfl rfl ?_
            dsimp only [List.set]
            have cl_ := Int32.not_le.mp c_278
            rw [r0, s1, ← ecost] at cl_
            rw [r0]
            have hS3 : FM (fr (eM h m M c v p) (u + 1)) (co u tr) (nI u - 1) (h_f7 F1 12) := by
              rw [fr_l hE hf cl_]
              refine ⟨fun z => (by cases z), fun x e => ?_⟩
              cases e
              exact ⟨rfl, (lkM_1 hu0).symm, fun w hw_ => (if_pos ⟨rfl, hw_⟩).trans (e85 w hw_)⟩
            rw [← ecost]
            refine EvQ.hp (h_f7 F1 0) (h_f7_0 F1).symm ?_
            refine l_cpy L b F1 n s k p l f q _ _ _ _ _ _ _ 12 0 (by omega) ?_
            refine ev_iinc (y := 1) rfl rfl rfl (by decide) rfl rfl ?_
            dsimp only [List.set]
            refine ev_goto rfl rfl ?_
            rw [nI_u1]
            exact EvQ.drop 14 (EvQ.drop 13 (EvQ.drop 12 (EvQ.drop 11 (ih (u + 1) (co u tr) (nI u - 1) (h_f7 F1 12) (by omega) (jw_f7 j1 12 (fun _ => rfl)) hS3))))

