def gs_l (n : Nat) (x : Int32) : Nat := x.toInt.toNat
def gs_ck (n : Nat) : Bool := Nat.beq n 0 || (Nat.blt (gs_l n (z_ls (nI n))) 12 && Nat.blt (gs_l n (z_gr (nI n))) 12 && decide (z_ls (nI n) = nI (gs_l n (z_ls (nI n)))) && decide (z_gr (nI n) = nI (gs_l n (z_gr (nI n)))) && decide (nI n >>> (z_ls (nI n) &&& 31) &&& 1 = 1) && decide (nI n >>> (z_gr (nI n) &&& 31) &&& 1 = 1) && (List.range 12).all (fun w => decide (nI n >>> (nI w &&& 31) &&& 1 = 0) || (Nat.ble (gs_l n (z_ls (nI n))) w && Nat.ble w (gs_l n (z_gr (nI n))))))
theorem gs_all : ck_all gs_ck 4096 = true := by decide +kernel
theorem gs_of {x : Int32} (h : B x 0 4095) (h0 : ¬ x = 0) : ∃ l g : Nat, l < 12 ∧ g < 12 ∧ z_ls x = nI l ∧ z_gr x = nI g ∧ x >>> (nI l &&& 31) &&& 1 = 1 ∧ x >>> (nI g &&& 31) &&& 1 = 1 ∧ ∀ w, w < 12 → ¬ x >>> (nI w &&& 31) &&& 1 = 0 → l ≤ w ∧ w ≤ g := by
  have p : B x 0 ((4095 : Nat) : Int) := h
  have l := (B.nI p).2
  have e := ck_at gs_all x.toNatClampNeg (by omega)
  unfold gs_ck at e
  rw [Bool.or_eq_true] at e
  rw [← (B.nI p).1] at e
  rcases e with e | e
  · exfalso
    have z := Nat.eq_of_beq_eq_true e
    apply h0
    rw [(B.nI p).1, z]
    rfl
  · rw [Bool.and_eq_true, Bool.and_eq_true, Bool.and_eq_true, Bool.and_eq_true, Bool.and_eq_true, Bool.and_eq_true, decide_eq_true_eq, decide_eq_true_eq, decide_eq_true_eq, decide_eq_true_eq, List.all_eq_true] at e
    obtain ⟨⟨⟨⟨⟨⟨e1, e2⟩, e3⟩, e4⟩, e5⟩, e6⟩, e7⟩ := e
    refine ⟨_, _, Nat.le_of_ble_eq_true e1, Nat.le_of_ble_eq_true e2, e3, e4, by rw [← e3]; exact e5, by rw [← e4]; exact e6, fun w hw hb => ?_⟩
    have z := e7 w (List.mem_range.mpr hw)
    rw [Bool.or_eq_true, decide_eq_true_eq, Bool.and_eq_true] at z
    rcases z with z | z
    · exact absurd z hb
    · exact ⟨Nat.le_of_ble_eq_true z.1, Nat.le_of_ble_eq_true z.2⟩
theorem s_in_all {a k u : Int32} : ∀ m, (¬ s_in a k u m = 0) ↔ ∀ w, w < m → ¬ a >>> (nI w &&& 31) &&& 1 = 0 → ¬ z_wi (nI w + k) 0 u = 0
  | 0 => by
    constructor
    · intro _ w hw
      exact absurd hw (Nat.not_lt_zero _)
    · intro _ z
      exact absurd (show (1 : Int32) = 0 from z) (by decide)
  | m + 1 => by
    have ih := s_in_all (a := a) (k := k) (u := u) m
    unfold s_in
    constructor
    · intro h w hw hb
      by_cases c : s_in a k u m = 0
      · rw [if_pos c] at h
        exact absurd rfl h
      · rw [if_neg c] at h
        by_cases e : w = m
        · subst e
          rw [if_neg hb] at h
          intro z
          rw [if_pos z] at h
          exact h rfl
        · exact ih.mp c w (by omega) hb
    · intro h
      have c : ¬ s_in a k u m = 0 := ih.mpr (fun w hw hb => h w (by omega) hb)
      rw [if_neg c]
      by_cases d : a >>> (nI m &&& 31) &&& 1 = 0
      · rw [if_pos d]; decide
      · rw [if_neg d, if_neg (h m (by omega) d)]; decide
theorem z_goes_01' (a k n : Int32) : z_goes a k n = 0 ∨ z_goes a k n = 1 := by
  unfold z_goes
  repeat' split
  all_goals first | exact Or.inl rfl | exact Or.inr rfl
theorem s_in_01' (a k u : Int32) (m : Nat) : s_in a k u m = 0 ∨ s_in a k u m = 1 := by
  cases m with
  | zero => exact Or.inr rfl
  | succ m =>
    unfold s_in
    repeat' split
    all_goals first | exact Or.inl rfl | exact Or.inr rfl
theorem goes_eq {a k : Int32} {n : Nat} (ha : B a 0 4095) (hk : B k (-11) 11) (hn : n ≤ 12) : z_goes a k (nI n) = s_in a k (nI n - 1) 12 := by
  have k1 := hk.1
  have k2 := hk.2
  have e0 : (0 : Int32).toInt = 0 := by decide
  have e1 : (1 : Int32).toInt = 1 := by decide
  have en := nI_toInt (show n < 2 ^ 31 by omega)
  have em := w_sub (x := nI n) (y := 1) (by omega) (by omega)
  have key : (¬ z_goes a k (nI n) = 0) ↔ ¬ s_in a k (nI n - 1) 12 = 0 := by
    rw [s_in_all 12]
    by_cases z : a = 0
    · subst z
      constructor
      · intro _ w hw hb
        exfalso
        apply hb
        rcases (show w = 0 ∨ w = 1 ∨ w = 2 ∨ w = 3 ∨ w = 4 ∨ w = 5 ∨ w = 6 ∨ w = 7 ∨ w = 8 ∨ w = 9 ∨ w = 10 ∨ w = 11 by omega) with rfl | rfl | rfl | rfl | rfl | rfl | rfl | rfl | rfl | rfl | rfl | rfl <;> decide
      · intro _ y
        unfold z_goes at y
        rw [if_pos rfl] at y
        exact absurd y (by decide)
    · obtain ⟨l, g, hl, hg, el, eg, bl, bg, bw⟩ := gs_of ha z
      unfold z_goes
      rw [if_neg z, el, eg]
      have wl : ∀ w : Nat, w < 12 → (nI w + k).toInt = (w : Int) + k.toInt := fun w hw => by
        have e := nI_toInt (show w < 2 ^ 31 by omega)
        rw [w_add (by omega) (by omega), e]
      have wz : ∀ w : Nat, w < 12 → ((¬ z_wi (nI w + k) 0 (nI n - 1) = 0) ↔ 0 ≤ (w : Int) + k.toInt ∧ (w : Int) + k.toInt < (n : Int)) := fun w hw => by
        have e := wl w hw
        unfold z_wi
        constructor
        · intro y
          by_cases c : nI w + k < 0
          · rw [if_pos c] at y; exact absurd rfl y
          · rw [if_neg c] at y
            by_cases d : nI n - 1 < nI w + k
            · rw [if_pos d] at y; exact absurd rfl y
            · have c2 := w_nlt c
              have d2 := w_nlt d
              omega
        · intro y
          rw [if_neg (fun c => by have := w_lt c; omega), if_neg (fun c => by have := w_lt c; omega)]
          decide
      have c1 : (nI l + k < 0) ↔ (l : Int) + k.toInt < 0 := by rw [Int32.lt_iff_toInt_lt, wl l hl, e0]
      have c2 : (nI n ≤ nI g + k) ↔ (n : Int) ≤ (g : Int) + k.toInt := by rw [Int32.le_iff_toInt_le, wl g hg, en]
      constructor
      · intro y w hw hb
        obtain ⟨b1, b2⟩ := bw w hw hb
        rw [wz w hw]
        by_cases d1 : nI l + k < 0
        · rw [if_pos d1] at y; exact absurd rfl y
        · rw [if_neg d1] at y
          by_cases d2 : nI n ≤ nI g + k
          · rw [if_pos d2] at y; exact absurd rfl y
          · have d3 : ¬ (l : Int) + k.toInt < 0 := fun t => d1 (c1.mpr t)
            have d4 : ¬ (n : Int) ≤ (g : Int) + k.toInt := fun t => d2 (c2.mpr t)
            omega
      · intro y
        have y1 := (wz l hl).mp (y l hl (by rw [bl]; decide))
        have y2 := (wz g hg).mp (y g hg (by rw [bg]; decide))
        rw [if_neg (fun t => by have := c1.mp t; omega), if_neg (fun t => by have := c2.mp t; omega)]
        decide
  rcases z_goes_01' a k (nI n) with p | p
  · rcases s_in_01' a k (nI n - 1) 12 with q | q
    · rw [p, q]
    · exact absurd p (key.mpr (by rw [q]; decide))
  · rcases s_in_01' a k (nI n - 1) 12 with q | q
    · exact absurd q (key.mp (by rw [p]; decide))
    · rw [p, q]

theorem md_all {h : Hp} (hB : Bx h) (hE : RE h) : ∀ c, 0 ≤ (s_md h c (h 63 5).toNatClampNeg).toInt := fun c => by
  have en : (h 63 5).toNatClampNeg = nW h := by unfold nW; rw [hE.2.1.1]
  rw [en]
  exact (md_nn c (nW h) (B.nI (u := 12) (hB 4 7)).2 hE.2.1.2.1).1
/-- the same heap but for the trial boiler -/
theorem md_tr {h h1 : Hp} (e : ∀ i j, 63 ≤ i → h1 i j = h i j) (q : ∀ c, 0 ≤ (s_md h c (h 63 5).toNatClampNeg).toInt) : ∀ c, 0 ≤ (s_md h1 c (h1 63 5).toNatClampNeg).toInt := fun c => by
  rw [e 63 5 (by decide), s_md_cg (fun k => e 65 k (by decide)) (fun k => e 70 k (by decide))]
  exact q c
theorem m_try_cg {h h1 : Hp} (e : ∀ i j, 63 ≤ i → h1 i j = h i j) (t k : Int32) : inM h1 t k = inM h t k ∧ yMr h1 t k = yMr h t k ∧ m_try h1 t k = m_try h t k := by
  have e1 : ∀ n m, s_mor h1 n m = s_mor h n m := fun n m => by
    induction m with
    | zero => rfl
    | succ m ih => unfold s_mor; rw [ih, e 74 _ (by decide)]
  have i1 : inM h1 t k = inM h t k := by
    unfold inM
    rw [e1, e 73 _ (by decide), e 63 5 (by decide)]
  have i2 : yMr h1 t k = yMr h t k := by
    unfold yMr yM
    rw [e 73 _ (by decide), e 63 5 (by decide), e 63 0 (by decide), e 63 1 (by decide), e 63 2 (by decide), e 63 3 (by decide), e 63 4 (by decide)]
    refine y_run_cg _ _ _ _ (fun j _ _ => ⟨?_, fun p => ?_⟩)
    · unfold dM
      rw [e 74 _ (by decide)]
      exact s_md_cg (fun k => e 65 k (by decide)) (fun k => e 70 k (by decide)) _ _
    · unfold sM
      rw [e 74 _ (by decide)]
      exact s_ms_cg (fun k => e 66 k (by decide)) (fun k => e 68 k (by decide)) (fun k => e 69 k (by decide)) _ _ _
  refine ⟨i1, i2, ?_⟩
  unfold m_try
  rw [i1, i2, e 63 23 (by decide)]
theorem try_pt {h : Hp} (hB : Bx h) (hT : RTU h) {t : Int32} (c0 : ¬ z_has t (h 28 2) = 0) : ∃ n, n < 6 ∧ t = nI n ∧ t.toNatClampNeg = n ∧ n < (h 28 2).toNatClampNeg := by
  have b6 : B (h 28 2) 0 6 := hB 28 2
  have z := z_has_B b6 c0
  have pt : B t 0 5 := ⟨z.1, by have := b6.2; omega⟩
  obtain ⟨n, hn, rfl, en⟩ := B.nat6 pt
  refine ⟨n, hn, rfl, en, ?_⟩
  have z2 := z.2
  rw [nI_toInt (by omega)] at z2
  have e2 : (h 28 2).toNatClampNeg = (h 28 2).toInt.toNat := rfl
  omega
/-- both sides' trial is one -/
theorem try_eq {h : Hp} (hB : Bx h) (hE : RE h) (hT : RTU h) (t k : Int32) : r_try h t k = m_try h t k ∧ (¬ z_has t (h 28 2) = 0 → ¬ z_wi k (-11) 11 = 0 → gsC h t k = inM h t k ∧ yCr h t k = yMr h t k) := by
  have key : ¬ z_has t (h 28 2) = 0 → ¬ z_wi k (-11) 11 = 0 → gsC h t k = inM h t k ∧ yCr h t k = yMr h t k := fun c0 c1 => by
    obtain ⟨⟨b0, b1, b2, b3, b4⟩, hW, -⟩ := hE
    obtain ⟨n, hn, rfl, en, nlt⟩ := try_pt hB hT c0
    obtain ⟨a1, a2⟩ := hT.2.2.2 n nlt
    have pk := z_wi_B (by decide : B (-11) (-11) (-11)) (by decide : B 11 11 11) c1
    have lw : nW h ≤ 12 := (B.nI (u := 12) (hB 4 7)).2
    have ew : h 4 7 = nI (nW h) := (B.nI (u := 12) (hB 4 7)).1
    have en5 : (h 63 5).toNatClampNeg = nW h := by unfold nW; rw [hW.1]
    have eor := or_eq (h := h) (n := n) (h 36 n).toNatClampNeg a2
    have bo : B (s_mor h n (h 36 n).toNatClampNeg) 0 4095 := s_mor_B (fun i => hB 74 i) _
    refine ⟨?_, ?_⟩
    · unfold gsC inM
      rw [en, eor, ← a1, ← hW.1, ew]
      exact goes_eq bo pk lw
    · unfold yCr yMr yC yM
      rw [en, en5, ← a1, b0, b1, b2, b3, b4]
      refine y_run_cg _ _ _ _ (fun j _ hj => ?_)
      have ej := a2 j (by omega)
      refine ⟨?_, fun p => ?_⟩
      · unfold dC dM
        rw [ej]
        exact drawn_eq _ _ hW.2.1
      · unfold sC sM
        rw [ej]
        exact stray_eq _ _ _ hW.2.1
  refine ⟨?_, key⟩
  unfold r_try m_try
  rw [← hT.2.2.1]
  by_cases c0 : z_has t (h 28 2) = 0
  · rw [if_pos c0, if_pos c0]
  · rw [if_neg c0, if_neg c0]
    by_cases c1 : z_wi k (-11) 11 = 0
    · rw [if_pos c1, if_pos c1]
    · obtain ⟨g1, g2⟩ := key c0 c1
      rw [if_neg c1, if_neg c1, g1, g2]
theorem jw_tr {h : Hp} (hB : Bx h) {s : Int32 × Int32 × Int32} (hs : B s.1 0 200) : JW [(3, 0), (3, 1), (3, 2), (3, 3), (3, 4)] h (k_tr h s) := by
  refine ⟨fun i j => ?_, fun i j q => ?_⟩
  · by_cases e : i = 3
    · subst e
      rcases (show j = 0 ∨ j = 1 ∨ j = 2 ∨ j = 3 ∨ j = 4 ∨ 5 ≤ j by omega) with rfl | rfl | rfl | rfl | rfl | q
      · exact hs
      · exact B.any _
      · exact B.any _
      · exact hB 2 3
      · exact B.any _
      · have y : k_tr h s 3 j = h 3 j := by
          unfold k_tr
          rw [if_pos rfl, if_neg (by omega), if_neg (by omega), if_neg (by omega), if_neg (by omega), if_neg (by omega)]
        rw [y]; exact hB 3 j
    · rw [k_tr_ne e]; exact hB i j
  · by_cases e : i = 3
    · subst e
      have n0 : j ≠ 0 := fun z => by subst z; cases q
      have n1 : j ≠ 1 := fun z => by subst z; cases q
      have n2 : j ≠ 2 := fun z => by subst z; cases q
      have n3 : j ≠ 3 := fun z => by subst z; cases q
      have n4 : j ≠ 4 := fun z => by subst z; cases q
      unfold k_tr
      rw [if_pos rfl, if_neg n0, if_neg n1, if_neg n2, if_neg n3, if_neg n4]
    · exact k_tr_ne e
theorem jw_try {h : Hp} (hB : Bx h) (t k : Int32) : JW [(3, 0), (3, 1), (3, 2), (3, 3), (3, 4)] h (k_try h t k) := by
  unfold k_try
  repeat' split
  all_goals first | exact JW.refl hB | exact jw_tr hB (y_run_B0 (hB 2 3) _ _ _ _ (hB 2 0))
theorem w_wouldZ (L : Nat) (b : Bool) (h : Hp) (hB : Bx h) (t k : Int32) : EvI mi_X9_would [.ref 1, .int t, .int k] (G0 L b) h (fun r z => r = r_try h t k ∧ z = k_try h t k) [(3, 0), (3, 1), (3, 2), (3, 3), (3, 4)] := (x_would L b h hB t k).ix (jw_try hB t k)
theorem jw_cp {W : List (Nat × Nat)} {h0 X : Hp} (hJ : JW W h0 X) (w0 : wm W 2 0 = true) (w1 : wm W 2 1 = true) (w2 : wm W 2 2 = true) (w3 : wm W 2 3 = true) (w4 : wm W 2 4 = true) : JW W h0 (z_cp X 2 3) := by
  refine ⟨fun i j => ?_, fun i j q => ?_⟩
  · unfold z_cp
    by_cases e : i = 2 ∧ j < 5
    · rw [if_pos e]
      obtain ⟨rfl, hj⟩ := e
      rcases (show j = 0 ∨ j = 1 ∨ j = 2 ∨ j = 3 ∨ j = 4 by omega) with rfl | rfl | rfl | rfl | rfl
      · exact hJ.1 3 0
      · exact B.any _
      · exact B.any _
      · exact hJ.1 3 3
      · exact B.any _
    · rw [if_neg e]; exact hJ.1 i j
  · unfold z_cp
    by_cases e : i = 2 ∧ j < 5
    · exfalso
      obtain ⟨rfl, hj⟩ := e
      rcases (show j = 0 ∨ j = 1 ∨ j = 2 ∨ j = 3 ∨ j = 4 by omega) with rfl | rfl | rfl | rfl | rfl
      · rw [w0] at q; cases q
      · rw [w1] at q; cases q
      · rw [w2] at q; cases q
      · rw [w3] at q; cases q
      · rw [w4] at q; cases q
    · rw [if_neg e]; exact hJ.2 i j q
theorem w_playZ (L : Nat) (b : Bool) (h : Hp) (hB : Bx h) (t k : Int32) : EvI mi_X9_play [.ref 1, .int t, .int k] (G0 L b) h (fun r z => r = r_try h t k ∧ z = k_play h (nX h) t k) [(2, 0), (2, 1), (2, 2), (2, 3), (2, 4), (3, 0), (3, 1), (3, 2), (3, 3), (3, 4), (11, 1), (11, 2), (11, 3), (13, 999), (14, 999), (15, 999), (16, 999), (17, 999), (18, 999), (19, 999), (20, 999), (21, 999), (22, 999)] := by
  refine (x_play L b h hB (nX h) (nX_lt hB) (nX_eq hB) t k).ix ?_
  have J0 : JW [(2, 0), (2, 1), (2, 2), (2, 3), (2, 4), (3, 0), (3, 1), (3, 2), (3, 3), (3, 4), (11, 1), (11, 2), (11, 3), (13, 999), (14, 999), (15, 999), (16, 999), (17, 999), (18, 999), (19, 999), (20, 999), (21, 999), (22, 999)] h (k_try h t k) := (jw_try hB t k).widen rfl
  have J1 : JW [(2, 0), (2, 1), (2, 2), (2, 3), (2, 4), (3, 0), (3, 1), (3, 2), (3, 3), (3, 4), (11, 1), (11, 2), (11, 3), (13, 999), (14, 999), (15, 999), (16, 999), (17, 999), (18, 999), (19, 999), (20, 999), (21, 999), (22, 999)] h (k_keep (k_try h t k) (nX h)) := J0.call (jw_keep J0.1 (nX_lt hB)) rfl
  have J2 : JW [(2, 0), (2, 1), (2, 2), (2, 3), (2, 4), (3, 0), (3, 1), (3, 2), (3, 3), (3, 4), (11, 1), (11, 2), (11, 3), (13, 999), (14, 999), (15, 999), (16, 999), (17, 999), (18, 999), (19, 999), (20, 999), (21, 999), (22, 999)] h (z_cp (k_keep (k_try h t k) (nX h)) 2 3) := jw_cp J1 rfl rfl rfl rfl rfl
  unfold k_play
  repeat' split
  all_goals first | exact J2 | exact J0
theorem w_mplayZ (L : Nat) (b : Bool) (h : Hp) (hB : Bx h) (hd : ∀ c, 0 ≤ (s_md h c (h 63 5).toNatClampNeg).toInt) (t k : Int32) : EvI mi_X10_play [.ref 63, .int t, .int k] (G0 L b) h (fun r z => r = m_try h t k ∧ z = km_play h t k) [(63, 13), (71, 999), (63, 0), (63, 1), (63, 4)] := by
  refine (m_xplay L b h hB hd t k).ix ?_
  have J1 : JW [(63, 13), (71, 999), (63, 0), (63, 1), (63, 4)] h (k_mkp h) := (jw_mkp hB).widen rfl
  have yb := y_run_B0 (f := h 63 2) (D := dM h t.toNatClampNeg (h 63 5).toNatClampNeg k) (S := sM h t.toNatClampNeg (h 63 5).toNatClampNeg k) (hB 63 3) (h 73 t.toNatClampNeg).toNatClampNeg 0 (h 63 0, h 63 1, h 63 4) 0 (hB 63 0)
  have J2 : JW [(63, 13), (71, 999), (63, 0), (63, 1), (63, 4)] h (k_m3 (k_mkp h) (yMr h t k).2) := J1.call (jw_mg J1.1 yb) rfl
  unfold km_play
  repeat' split
  all_goals first | exact J2 | exact JW.refl hB
theorem kk_cg {X h : Hp} {n i j : Nat} (e : ∀ i j, i ≠ 3 → X i j = h i j) (hi : i ≠ 3) : k_keep X n i j = k_keep h n i j := by
  unfold k_keep
  rw [e 4 6 (by decide), e 2 j (by decide), e 9 _ (by decide), e 10 _ (by decide), e 11 2 (by decide), e 11 3 (by decide), e 11 j (by decide), e i j hi]
theorem went_iff {f v : Int32} {D : Nat → Int32} {S : Nat → Int32 → Int32} {t : Nat} {s : Int32 × Int32 × Int32} (ht : t ≤ 24) : ((y_run f v D S t 0 s 0).1 = -100 → ¬ 0 ≤ (y_run f v D S t 0 s 0).1 ∧ -100 ≤ (y_run f v D S t 0 s 0).1) ∧ (¬ (y_run f v D S t 0 s 0).1 = -100 → 0 ≤ (y_run f v D S t 0 s 0).1 ∨ ¬ -100 ≤ (y_run f v D S t 0 s 0).1) := by
  have z := y_run_v (f := f) (v := v) (D := D) (S := S) t 0 s 0 (by decide)
  generalize (y_run f v D S t 0 s 0).1 = r at *
  refine ⟨fun e => by rw [e]; decide, fun e => ?_⟩
  rcases z with z | ⟨j, -, hj, ej⟩
  · exact Or.inl z
  · right
    have h0 : j ≠ 0 := fun y => e (by rw [ej, y]; decide)
    intro y
    have y2 := w_le y
    have e1 : (-100 : Int32).toInt = -100 := by decide
    have e2 := nI_toInt (show j < 2 ^ 31 by omega)
    have e3 := w_sub (x := -100) (y := nI j) (by omega) (by omega)
    rw [ej] at y2
    omega
theorem play_h1 {h : Hp} {n : Nat} {t k : Int32} (ht : (h 36 t.toNatClampNeg).toNatClampNeg ≤ 24) (c0 : ¬ z_has t (h 28 2) = 0) (c1 : ¬ z_wi k (-11) 11 = 0) (c2 : ¬ gsC h t k = 0) : ((yCr h t k).1 = -100 → k_play h n t k = k_tr h (yCr h t k).2) ∧ (¬ (yCr h t k).1 = -100 → k_play h n t k = z_cp (k_keep (k_tr h (yCr h t k).2) n) 2 3) := by
  have w : ((yCr h t k).1 = -100 → ¬ 0 ≤ (yCr h t k).1 ∧ -100 ≤ (yCr h t k).1) ∧ (¬ (yCr h t k).1 = -100 → 0 ≤ (yCr h t k).1 ∨ ¬ -100 ≤ (yCr h t k).1) := went_iff ht
  unfold k_play r_try k_try
  rw [if_neg c0, if_neg c1, if_neg c2, if_neg c0, if_neg c1, if_neg c2]
  refine ⟨fun e => ?_, fun e => ?_⟩
  · rw [if_neg (w.1 e).1, if_pos (w.1 e).2]
  · rcases w.2 e with q | q
    · rw [if_pos q]
    · by_cases q0 : 0 ≤ (yCr h t k).1
      · rw [if_pos q0]
      · rw [if_neg q0, if_neg q]
/-- the trial boiler is none of RE's -/
theorem RE.tr {h h1 : Hp} (hE : RE h) (e : ∀ i j, i ≠ 3 → h1 i j = h i j) : RE h1 := by
  have f : ∀ i, i ≠ 3 → h1 i = h i := fun i hi => funext (fun j => e i j hi)
  obtain ⟨hb, hw, ⟨ha1, ha2⟩, ha3⟩ := hE
  have ew : nW h1 = nW h := by unfold nW; rw [f 4 (by decide)]
  have eA : nA_ h1 = nA_ h := by unfold nA_; rw [f 63 (by decide)]
  have eX : nX h1 = nX h := by unfold nX; rw [f 11 (by decide)]
  have eK : ∀ k, cK h1 k = cK h k := fun k => by unfold cK; rw [f 71 (by decide)]
  have lz : ∀ c, ZB (h1 9) (h1 10) (h1 4 6) c ↔ ZB (h 9) (h 10) (h 4 6) c := fun c => by rw [f 9 (by decide), f 10 (by decide), f 4 (by decide)]
  refine ⟨?_, RWs.cg hw (fun i j _ _ => e i j (by omega)) (e 63 5 (by decide)) (fun i j _ _ => e i j (by omega)), ⟨?_, fun k hk => ?_⟩, fun q => ?_⟩
  · unfold RBo
    rw [f 2 (by decide), f 63 (by decide)]
    exact hb
  · rw [f 11 (by decide), f 63 (by decide)]; exact ha1
  · rw [eA] at hk
    have z := ha2 k hk
    unfold rI at z ⊢
    rw [eX, eA]
    unfold RRow at z ⊢
    rw [f (13 + (nX h + 10 - nA_ h + k) % 10) (by omega), f 71 (by decide), eK, ew, eK]
    exact z
  · rw [eA] at q ⊢
    rw [eK, lz]
    exact ha3 q
theorem rel_play {h h1 : Hp} (hB : Bx h) (hB1 : Bx h1) (hE : RE h) (hT : RTU h) (t k : Int32) (e1 : h1 = k_play h (nX h) t k) : r_try h t k = m_try h1 t k ∧ RE (km_play h1 t k) := by
  have ln := nX_lt hB
  obtain ⟨te, tk⟩ := try_eq hB hE hT t k
  obtain ⟨⟨b0, b1, b2, b3, b4⟩, hW, hA⟩ := id hE

  have low : r_try h t k = -1 ∨ r_try h t k = -2 → k_play h (nX h) t k = k_try h t k := fun q => by
    unfold k_play
    rcases q with q | q
    · rw [q, if_neg (by decide), if_pos (by decide)]
    · rw [q, if_neg (by decide), if_pos (by decide)]
  have quiet : (∀ i j, i ≠ 3 → h1 i j = h i j) → km_play h1 t k = h1 → r_try h t k = m_try h1 t k ∧ RE (km_play h1 t k) := fun e z => by
    rw [z]
    exact ⟨by rw [te, (m_try_cg (fun i j hi => e i j (by omega)) t k).2.2], hE.tr e⟩
  by_cases c0 : z_has t (h 28 2) = 0
  · have e : h1 = h := by rw [e1, low (Or.inl (by unfold r_try; rw [if_pos c0]))]; unfold k_try; rw [if_pos c0]
    subst e
    exact quiet (fun _ _ _ => rfl) (by unfold km_play; rw [if_pos (by rw [← hT.2.2.1]; exact c0)])
  by_cases c1 : z_wi k (-11) 11 = 0
  · have e : h1 = h := by rw [e1, low (Or.inl (by unfold r_try; rw [if_neg c0, if_pos c1]))]; unfold k_try; rw [if_neg c0, if_pos c1]
    subst e
    exact quiet (fun _ _ _ => rfl) (by unfold km_play; rw [if_neg (by rw [← hT.2.2.1]; exact c0), if_pos c1])
  obtain ⟨g1, g2⟩ := tk c0 c1
  by_cases c2 : gsC h t k = 0
  · have e : h1 = h := by rw [e1, low (Or.inr (by unfold r_try; rw [if_neg c0, if_neg c1, if_pos c2]))]; unfold k_try; rw [if_neg c0, if_neg c1, if_pos c2]
    subst e
    exact quiet (fun _ _ _ => rfl) (by unfold km_play; rw [if_neg (by rw [← hT.2.2.1]; exact c0), if_neg c1, if_pos (by rw [← g1]; exact c2)])
  have h24 : (h 36 t.toNatClampNeg).toNatClampNeg ≤ 24 := (B.nI (u := 24) (hB 36 _)).2
  obtain ⟨p1, p2⟩ := play_h1 (n := nX h) h24 c0 c1 c2
  have c0m : ¬ z_has t (h 63 23) = 0 := by rw [← hT.2.2.1]; exact c0
  by_cases c3 : (yCr h t k).1 = -100
  · have e : ∀ i j, i ≠ 3 → h1 i j = h i j := fun i j hi => by rw [e1, p1 c3]; exact k_tr_ne hi
    obtain ⟨m1, m2, m3⟩ := m_try_cg (fun i j hi => e i j (by omega) : ∀ i j, 63 ≤ i → h1 i j = h i j) t k
    exact quiet e (by unfold km_play; rw [e 63 23 (by decide), m1, m2, if_neg c0m, if_neg c1, if_neg (by rw [← g1]; exact c2), if_pos (by rw [← g2]; exact c3)])
  · have e := e1.trans (p2 c3)
    have xe : ∀ i j, i ≠ 3 → k_tr h (yCr h t k).2 i j = h i j := fun i j hi => k_tr_ne hi
    have ne2 : ∀ i j, i ≠ 2 → h1 i j = k_keep (k_tr h (yCr h t k).2) (nX h) i j := fun i j hi => by rw [e]; exact if_neg (fun z => hi z.1)
    have c63 : ∀ i j, 63 ≤ i → h1 i j = h i j := fun i j hi => by rw [ne2 i j (by omega), kk_ne ln (by omega) (by omega)]; exact k_tr_ne (by omega)
    have c4 : ∀ i j, 4 ≤ i → i ≤ 10 → h1 i j = h i j := fun i j g1 g2 => by rw [ne2 i j (by omega), kk_ne ln (by omega) (by omega)]; exact k_tr_ne (by omega)
    have c2f : ∀ f, f < 5 → h1 2 f = k_tr h (yCr h t k).2 3 f := fun f hf => by
      rw [e, show z_cp (k_keep (k_tr h (yCr h t k).2) (nX h)) 2 3 2 f = k_keep (k_tr h (yCr h t k).2) (nX h) 3 f from if_pos ⟨rfl, hf⟩]
      exact kk_ne ln (by decide) (by decide)
    obtain ⟨m1, m2, m3⟩ := m_try_cg c63 t k
    have ek : km_play h1 t k = k_m3 (k_mkp h1) (yMr h t k).2 := by
      unfold km_play
      rw [c63 63 23 (by decide), m1, m2, if_neg c0m, if_neg c1, if_neg (by rw [← g1]; exact c2), if_neg (by rw [← g2]; exact c3)]
    rw [ek]
    have o3 : ∀ i j, i ≠ 63 → i ≠ 71 → k_m3 (k_mkp h1) (yMr h t k).2 i j = h1 i j := fun i j h1_ h2_ => by rw [k_m3_ne h1_, k_mkp_o h2_ h1_]
    refine ⟨by rw [te, m3], act_re hB hB1 hE (fun j => by rw [ne2 11 j (by decide)]; exact kk_cg xe (by decide)) (fun i hi j => by rw [ne2 _ j (by omega)]; exact kk_cg xe (by omega)) c63 (fun j => o3 11 j (by decide) (by decide)) (fun i hi j => o3 _ j (by omega) (by omega)) (fun j => k_m3_ne (by decide)) (k_m3_6o (by decide) (by decide) (by decide)) ?_ ?_ (RWs.cg hW (fun i j g1 g2 => by rw [o3 i j (by omega) (by omega)]; exact c4 i j g1 g2) (by rw [k_m3_6o (by decide) (by decide) (by decide), k_mkp_63 (by decide)]; exact c63 63 5 (by decide)) (fun i j g1 g2 => by rw [o3 i j (by omega) (by omega)]; exact c63 i j (by omega)))⟩
    · unfold nW
      rw [o3 4 7 (by decide) (by decide), c4 4 7 (by decide) (by decide)]
    · have k2 : k_m3 (k_mkp h1) (yMr h t k).2 63 2 = h 63 2 := by rw [k_m3_6o (by decide) (by decide) (by decide), k_mkp_63 (by decide)]; exact c63 63 2 (by decide)
      have k3 : k_m3 (k_mkp h1) (yMr h t k).2 63 3 = h 63 3 := by rw [k_m3_6o (by decide) (by decide) (by decide), k_mkp_63 (by decide)]; exact c63 63 3 (by decide)
      unfold RBo
      rw [o3 2 0 (by decide) (by decide), o3 2 1 (by decide) (by decide), o3 2 2 (by decide) (by decide), o3 2 3 (by decide) (by decide), o3 2 4 (by decide) (by decide), c2f 0 (by decide), c2f 1 (by decide), c2f 2 (by decide), c2f 3 (by decide), c2f 4 (by decide), g2, k2, k3]
      exact ⟨rfl, rfl, b2, b3, rfl⟩

