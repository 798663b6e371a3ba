/-- nothing beyond c: stems, cracks, leaking keys -/
def ZB (st cr : Nat → Int32) (lk : Int32) (c : Nat) : Prop := ∀ w, c ≤ w → w < 12 → st w = 0 ∧ cr w = 0 ∧ lk >>> (nI w &&& 31) &&& 1 = 0
def nW (h : Hp) : Nat := (h 4 7).toNatClampNeg
def nA_ (h : Hp) : Nat := (h 63 13).toNatClampNeg
def nX (h : Hp) : Nat := (h 11 1).toNatClampNeg
def cK (h : Hp) (k : Nat) : Nat := (h 71 (42 * k + 5)).toNatClampNeg
def rI (h : Hp) (k : Nat) : Nat := (nX h + 10 - nA_ h + k) % 10
def RBo (h : Hp) : Prop := h 2 0 = h 63 0 ∧ h 2 1 = h 63 1 ∧ h 2 2 = h 63 2 ∧ h 2 3 = h 63 3 ∧ h 2 4 = h 63 4
def RW1 (h : Hp) (w : Nat) : Prop := h 5 w = h 64 w ∧ h 6 w = h 65 w ∧ h 7 w = h 66 w ∧ h 8 w = h 67 w ∧ h 9 w = h 68 w ∧ h 10 w = h 69 w ∧ h 4 6 >>> (nI w &&& 31) &&& 1 = h 70 w ∧ B (h 6 w) 1 9 ∧ B (h 7 w) 0 20 ∧ B (h 5 w) 0 3600
def RWs (h : Hp) : Prop := h 4 7 = h 63 5 ∧ (∀ w, w < nW h → RW1 h w) ∧ ZB (h 9) (h 10) (h 4 6) (nW h)
/-- the class's row i of the ring is the model's row k -/
def RRow (h : Hp) (i k : Nat) : Prop := (∀ f, f < 5 → h (13 + i) f = h 71 (42 * k + f)) ∧ cK h k ≤ nW h ∧ (∀ w, w < cK h k → h (13 + i) (6 + w) = h 71 (42 * k + 6 + w) ∧ h (13 + i) (18 + w) = h 71 (42 * k + 18 + w) ∧ h (13 + i) 5 >>> (nI w &&& 31) &&& 1 = h 71 (42 * k + 30 + w)) ∧ ZB (fun w => h (13 + i) (6 + w)) (fun w => h (13 + i) (18 + w)) (h (13 + i) 5) (cK h k) ∧ (1 ≤ k → ZB (fun w => h (13 + i) (6 + w)) (fun w => h (13 + i) (18 + w)) (h (13 + i) 5) (cK h (k - 1)))
def RAr (h : Hp) : Prop := h 11 2 = h 63 13 ∧ ∀ k, k < nA_ h → RRow h (rI h k) k
def RAc (h : Hp) : Prop := RAr h ∧ (1 ≤ nA_ h → ZB (h 9) (h 10) (h 4 6) (cK h (nA_ h - 1)))
def RE (h : Hp) : Prop := RBo h ∧ RWs h ∧ RAc h
theorem RRow.cg {h h1 : Hp} {i i' k k' : Nat} (hR : RRow h i k) (e1 : ∀ j, h1 (13 + i') j = h (13 + i) j) (e2 : ∀ f, f < 42 → h1 71 (42 * k' + f) = h 71 (42 * k + f)) (e3 : nW h ≤ nW h1) (h12 : nW h ≤ 12) (e4 : 1 ≤ k' → 1 ≤ k ∧ cK h1 (k' - 1) = cK h (k - 1)) : RRow h1 i' k' := by
  obtain ⟨a1, a2, a3, a4, a5⟩ := hR
  have ec : cK h1 k' = cK h k := by unfold cK; rw [e2 5 (by decide)]
  unfold RRow
  rw [ec]
  have g1 : (fun w => h1 (13 + i') (6 + w)) = (fun w => h (13 + i) (6 + w)) := funext (fun w => e1 _)
  have g2 : (fun w => h1 (13 + i') (18 + w)) = (fun w => h (13 + i) (18 + w)) := funext (fun w => e1 _)
  rw [g1, g2, e1 5]
  refine ⟨fun f hf => by rw [e1, e2 f (by omega)]; exact a1 f hf, by omega, fun w hw => ?_, a4, fun q => ?_⟩
  · by_cases w12 : w < 12
    · have z := a3 w hw
      rw [e1, e1, Nat.add_assoc (42 * k') 6 w, Nat.add_assoc (42 * k') 18 w, Nat.add_assoc (42 * k') 30 w, e2 (6 + w) (by omega), e2 (18 + w) (by omega), e2 (30 + w) (by omega), ← Nat.add_assoc, ← Nat.add_assoc, ← Nat.add_assoc]
      exact z
    · exact absurd hw (by omega)
  · rw [(e4 q).2]; exact a5 (e4 q).1
/-- what the class's keep leaves: row n is what stood -/
def KC (h h1 : Hp) (n : Nat) : Prop := h1 11 1 = nI ((n + 1) % 10) ∧ h1 11 2 = z_min 10 (h 11 2 + 1) ∧ (∀ j, j < 5 → h1 (13 + n) j = h 2 j) ∧ h1 (13 + n) 5 = h 4 6 ∧ (∀ w, w < 12 → h1 (13 + n) (6 + w) = h 9 w ∧ h1 (13 + n) (18 + w) = h 10 w) ∧ ∀ i, i < 10 → i ≠ n → ∀ j, h1 (13 + i) j = h (13 + i) j
theorem kc_keep (h : Hp) {n : Nat} (hn : n < 10) : KC h (k_keep h n) n := by
  have e0 : ∀ j, k_keep h n (13 + n) j = if j < 6 then (if j = 5 then h 4 6 else h 2 j) else if j < 18 then h 9 (j - 6) else if j < 30 then h 10 (j - 18) else h (13 + n) j := fun j => if_pos rfl
  have e1 : ∀ j, k_keep h n 11 j = if j = 1 then (nI n + 1) - (nI n + 1) / 10 * 10 else if j = 2 then z_min 10 (h 11 2 + 1) else if j = 3 then h 11 3 + 1 else h 11 j := fun j => by
    unfold k_keep
    rw [if_neg (by omega), if_pos rfl]
  refine ⟨?_, ?_, fun j hj => ?_, ?_, fun w hw => ⟨?_, ?_⟩, fun i hi hne j => ?_⟩
  · rw [e1, if_pos rfl]
    rcases (show n = 0 ∨ n = 1 ∨ n = 2 ∨ n = 3 ∨ n = 4 ∨ n = 5 ∨ n = 6 ∨ n = 7 ∨ n = 8 ∨ n = 9 by omega) with rfl | rfl | rfl | rfl | rfl | rfl | rfl | rfl | rfl | rfl <;> decide
  · rw [e1, if_neg (by decide), if_pos rfl]
  · rw [e0, if_pos (by omega), if_neg (by omega)]
  · rw [e0, if_pos (by decide), if_pos rfl]
  · rw [e0, if_neg (by omega), if_pos (by omega), show 6 + w - 6 = w by omega]
  · rw [e0, if_neg (by omega), if_neg (by omega), if_pos (by omega), show 18 + w - 18 = w by omega]
  · exact k_keep_ne (by omega) (by omega)
theorem KC.cg {h h1 h2 : Hp} {n : Nat} (hn : n < 10) (k : KC h h1 n) (e1 : ∀ j, h2 11 j = h1 11 j) (e2 : ∀ i, i < 10 → ∀ j, h2 (13 + i) j = h1 (13 + i) j) : KC h h2 n := by
  obtain ⟨a1, a2, a3, a4, a5, a6⟩ := k
  refine ⟨by rw [e1]; exact a1, by rw [e1]; exact a2, fun j hj => by rw [e2 n hn]; exact a3 j hj, by rw [e2 n hn]; exact a4, fun w hw => ?_, fun i hi hne j => by rw [e2 i hi]; exact a6 i hi hne j⟩
  rw [e2 n hn, e2 n hn]
  exact a5 w hw
/-- what the model's keeps leaves, a acts being kept before -/
def KMk (h h2 : Hp) (a r : Nat) : Prop := (∀ f, f < 5 → h2 71 (42 * r + f) = h 63 f) ∧ h2 71 (42 * r + 5) = h 63 5 ∧ (∀ w, w < 12 → h2 71 (42 * r + 6 + w) = h 68 w ∧ h2 71 (42 * r + 18 + w) = h 69 w ∧ h2 71 (42 * r + 30 + w) = z_01 (h 70 w)) ∧ h2 63 13 = nI (r + 1) ∧ ((a < 10 ∧ r = a ∧ ∀ j, j < 42 * a → h2 71 j = h 71 j) ∨ (a = 10 ∧ r = 9 ∧ ∀ j, j < 378 → h2 71 j = h 71 (j + 42)))
theorem k_mk_out {h : Hp} {n j : Nat} (q : j < 42 * n ∨ 42 * n + 42 ≤ j) : ∀ t, t ≤ 12 → k_mk h n t 71 j = h 71 j
  | 0, _ => by
    unfold k_mk k_mk0
    rw [ev_rd3 (by omega), ev_rd3 (by omega), ev_rd3 (by omega), ev_rd3 (by omega), ev_rd3 (by omega), ev_rd3 (by omega)]
  | t + 1, ht => by
    unfold k_mk
    rw [ev_rd3 (by omega), ev_rd3 (by omega), ev_rd3 (by omega)]
    exact k_mk_out q t (by omega)
theorem k_mk_hd {h : Hp} {n f : Nat} (hf : f < 6) : ∀ t, t ≤ 12 → k_mk h n t 71 (42 * n + f) = h 63 f
  | 0, _ => by
    unfold k_mk k_mk0
    rcases (show f = 0 ∨ f = 1 ∨ f = 2 ∨ f = 3 ∨ f = 4 ∨ f = 5 by omega) with rfl | rfl | rfl | rfl | rfl | rfl
    · rw [ev_rd3 (by omega), ev_rd3 (by omega), ev_rd3 (by omega), ev_rd3 (by omega), ev_rd3 (by omega)]
      exact ev_rd1 _ _ _ _
    · rw [ev_rd3 (by omega), ev_rd3 (by omega), ev_rd3 (by omega), ev_rd3 (by omega)]
      exact ev_rd1 _ _ _ _
    · rw [ev_rd3 (by omega), ev_rd3 (by omega), ev_rd3 (by omega)]
      exact ev_rd1 _ _ _ _
    · rw [ev_rd3 (by omega), ev_rd3 (by omega)]
      exact ev_rd1 _ _ _ _
    · rw [ev_rd3 (by omega)]
      exact ev_rd1 _ _ _ _
    · exact ev_rd1 _ _ _ _
  | t + 1, ht => by
    unfold k_mk
    rw [ev_rd3 (by omega), ev_rd3 (by omega), ev_rd3 (by omega)]
    exact k_mk_hd hf t (by omega)
theorem k_mk_w {h : Hp} {n i : Nat} : ∀ t, t ≤ 12 → i < t → k_mk h n t 71 (42 * n + 6 + i) = h 68 i ∧ k_mk h n t 71 (42 * n + 18 + i) = h 69 i ∧ k_mk h n t 71 (42 * n + 30 + i) = z_01 (h 70 i)
  | 0, _, hi => absurd hi (by omega)
  | t + 1, ht, hi => by
    unfold k_mk
    by_cases e : i = t
    · subst e
      refine ⟨?_, ?_, ev_rd1 _ _ _ _⟩
      · rw [ev_rd3 (by omega), ev_rd3 (by omega)]; exact ev_rd1 _ _ _ _
      · rw [ev_rd3 (by omega)]; exact ev_rd1 _ _ _ _
    · have z := k_mk_w (h := h) (n := n) (i := i) t (by omega) (by omega)
      refine ⟨?_, ?_, ?_⟩
      · rw [ev_rd3 (by omega), ev_rd3 (by omega), ev_rd3 (by omega)]; exact z.1
      · rw [ev_rd3 (by omega), ev_rd3 (by omega), ev_rd3 (by omega)]; exact z.2.1
      · rw [ev_rd3 (by omega), ev_rd3 (by omega), ev_rd3 (by omega)]; exact z.2.2
theorem k_mkeep_71 {h : Hp} {n j : Nat} : k_mkeep h n 71 j = k_mk h n 12 71 j := ev_rd2 (by decide)
theorem km_keep {h : Hp} (hB : Bx h) : KMk h (k_mkp h) (nA_ h) (if nA_ h = 10 then 9 else nA_ h) := by
  have p10 : B (h 63 13) 0 10 := hB 63 13
  have en := B.nI (u := 10) p10
  have ea : h 63 13 = nI (nA_ h) := en.1
  have la : nA_ h ≤ 10 := en.2
  unfold k_mkp
  by_cases q : nA_ h = 10
  · have q1 : h 63 13 = 10 := by rw [ea, q]; rfl
    rw [if_pos q, if_pos q1]
    have m63 : ∀ j, j ≠ 13 → ev_set (k_msh h 378) 63 13 9 63 j = h 63 j := fun j hj => by rw [ev_rd3 hj, k_msh_ne (by decide)]
    have mo : ∀ i j, i ≠ 63 → i ≠ 71 → ev_set (k_msh h 378) 63 13 9 i j = h i j := fun i j h1 h2 => by rw [ev_rd2 h1, k_msh_ne h2]
    refine ⟨fun f hf => ?_, ?_, fun w hw => ?_, ?_, Or.inr ⟨q, rfl, fun j hj => ?_⟩⟩
    · rw [k_mkeep_71, k_mk_hd (by omega) 12 (by decide)]; exact m63 f (by omega)
    · rw [k_mkeep_71, k_mk_hd (by decide) 12 (by decide)]; exact m63 5 (by decide)
    · have z := k_mk_w (h := ev_set (k_msh h 378) 63 13 9) (n := 9) (i := w) 12 (by decide) hw
      rw [k_mkeep_71, k_mkeep_71, k_mkeep_71, z.1, z.2.1, z.2.2, mo 68 w (by decide) (by decide), mo 69 w (by decide) (by decide), mo 70 w (by decide) (by decide)]
      exact ⟨rfl, rfl, rfl⟩
    · unfold k_mkeep
      rw [ev_rd1, ev_rd1]
      rfl
    · rw [k_mkeep_71, k_mk_out (by omega) 12 (by decide), ev_rd2 (by decide), k_msh_lt hj]
  · have q1 : ¬ h 63 13 = 10 := fun z => q ((nI_eq (a := nA_ h) (b := 10) (by omega) (by decide)).mp (ea.symm.trans z))
    rw [if_neg q, if_neg q1]
    refine ⟨fun f hf => ?_, ?_, fun w hw => ?_, ?_, Or.inl ⟨by omega, rfl, fun j hj => ?_⟩⟩
    · rw [k_mkeep_71]; exact k_mk_hd (by omega) 12 (by decide)
    · rw [k_mkeep_71]; exact k_mk_hd (by decide) 12 (by decide)
    · have z := k_mk_w (h := h) (n := nA_ h) (i := w) 12 (by decide) hw
      rw [k_mkeep_71, k_mkeep_71, k_mkeep_71]
      exact z
    · unfold k_mkeep
      rw [ev_rd1]
      have := nI_1 (nA_ h)
      rw [← this, ← ea]
    · rw [k_mkeep_71]; exact k_mk_out (Or.inl hj) 12 (by decide)
theorem z_mn10 {a : Nat} (ha : a ≤ 10) : z_min 10 (nI a + 1) = nI (if a = 10 then 10 else a + 1) := by
  rcases (show a = 0 ∨ a = 1 ∨ a = 2 ∨ a = 3 ∨ a = 4 ∨ a = 5 ∨ a = 6 ∨ a = 7 ∨ a = 8 ∨ a = 9 ∨ a = 10 by omega) with rfl | rfl | rfl | rfl | rfl | rfl | rfl | rfl | rfl | rfl | rfl <;> decide
theorem bit_01 (x y : Int32) : x >>> y &&& 1 = 0 ∨ x >>> y &&& 1 = 1 := bit01 _
theorem z_01_bit {x y u : Int32} (e : x >>> y &&& 1 = u) : z_01 u = u := by
  subst e
  unfold z_01
  rcases bit_01 x y with q | q
  · rw [if_pos q, q]
  · rw [if_neg (by rw [q]; decide), q]
/-- both have kept: the rows agree again, and the last of them is what stood -/
theorem rel_acts {h h2 : Hp} (hB : Bx h) (hE : RE h) (kc : KC h h2 (nX h)) {r : Nat} (km : KMk h h2 (nA_ h) r) (ew : nW h2 = nW h) : RAr h2 ∧ nA_ h2 = r + 1 ∧ cK h2 r = nW h := by
  obtain ⟨hb, ⟨w1, w2, w3⟩, ⟨r1, r2⟩, r3⟩ := hE
  obtain ⟨c1, c2, c3, c4, c5, c6⟩ := kc
  obtain ⟨m1, m2, m3, m4, m5⟩ := km
  have p10 : B (h 63 13) 0 10 := hB 63 13
  have ea : h 63 13 = nI (nA_ h) := (B.nI (u := 10) p10).1
  have la : nA_ h ≤ 10 := (B.nI (u := 10) p10).2
  have ln : nX h ≤ 9 := (B.nI (u := 9) (hB 11 1)).2
  have lw : nW h ≤ 12 := (B.nI (u := 12) (hB 4 7)).2
  have lr : r ≤ 9 := by rcases m5 with z | z <;> omega
  have en : nX h2 = (nX h + 1) % 10 := by unfold nX at *; rw [c1]; exact nI_clamp (by omega)
  have ea2 : nA_ h2 = r + 1 := by unfold nA_; rw [m4]; exact nI_clamp (by omega)
  have ck : cK h2 r = nW h := by unfold cK nW; rw [m2, w1]
  have e112 : h2 11 2 = h2 63 13 := by
    rw [c2, r1, ea, z_mn10 la, m4]
    rcases m5 with z | z
    · rw [if_neg (by omega), z.2.1]
    · rw [if_pos z.1, z.2.1]
  -- the new row
  have new : (1 ≤ r → ZB (h 9) (h 10) (h 4 6) (cK h2 (r - 1))) → RRow h2 (nX h) r := fun hz => by
    have g1 : ∀ w, w < 12 → h2 (13 + nX h) (6 + w) = h 9 w := fun w hw => (c5 w hw).1
    have g2 : ∀ w, w < 12 → h2 (13 + nX h) (18 + w) = h 10 w := fun w hw => (c5 w hw).2
    unfold RRow
    rw [ck, ew, c4]
    refine ⟨fun f hf => ?_, Nat.le_refl _, fun w hw => ?_, fun w hw h12 => ?_, fun q w hw h12 => ?_⟩
    · rw [c3 f hf, m1 f hf]
      obtain ⟨b0, b1, b2, b3, b4⟩ := hb
      rcases (show f = 0 ∨ f = 1 ∨ f = 2 ∨ f = 3 ∨ f = 4 by omega) with rfl | rfl | rfl | rfl | rfl <;> assumption
    · obtain ⟨-, -, -, -, v9, v10, vb, -⟩ := w2 w hw
      have z := m3 w (by omega)
      rw [g1 w (by omega), g2 w (by omega), z.1, z.2.1, z.2.2]
      exact ⟨v9, v10, by rw [z_01_bit vb]; exact vb⟩
    · have z := w3 w hw h12
      exact ⟨(g1 w h12).trans z.1, (g2 w h12).trans z.2.1, z.2.2⟩
    · have z := hz q w hw h12
      exact ⟨(g1 w h12).trans z.1, (g2 w h12).trans z.2.1, z.2.2⟩
  refine ⟨⟨e112, fun k hk => ?_⟩, ea2, ck⟩
  rw [ea2] at hk
  unfold rI
  rw [en, ea2]
  rcases m5 with ⟨h10, rfl, mo⟩ | ⟨h10, rfl, mo⟩
  · by_cases e : k = nA_ h
    · subst e
      rw [show ((nX h + 1) % 10 + 10 - (nA_ h + 1) + nA_ h) % 10 = nX h by omega]
      refine new (fun q => ?_)
      have ec : cK h2 (nA_ h - 1) = cK h (nA_ h - 1) := by unfold cK; rw [mo _ (by omega)]
      rw [ec]
      exact r3 q
    · rw [show ((nX h + 1) % 10 + 10 - (nA_ h + 1) + k) % 10 = rI h k by unfold rI; omega]
      have ne : rI h k ≠ nX h := by unfold rI; omega
      have l10 : rI h k < 10 := Nat.mod_lt _ (by decide)
      refine RRow.cg (r2 k (by omega)) (fun j => c6 _ l10 ne j) (fun f hf => mo _ (by omega)) (Nat.le_of_eq ew.symm) lw (fun q => ⟨q, ?_⟩)
      unfold cK
      rw [mo _ (by omega)]
  · by_cases e : k = 9
    · subst e
      rw [show ((nX h + 1) % 10 + 10 - (9 + 1) + 9) % 10 = nX h by omega]
      refine new (fun _ => ?_)
      have ec : cK h2 (9 - 1) = cK h (nA_ h - 1) := by unfold cK; rw [mo _ (by omega), h10]
      rw [ec]
      exact r3 (by omega)
    · rw [show ((nX h + 1) % 10 + 10 - (9 + 1) + k) % 10 = rI h (k + 1) by unfold rI; omega]
      have ne : rI h (k + 1) ≠ nX h := by unfold rI; omega
      have l10 : rI h (k + 1) < 10 := Nat.mod_lt _ (by decide)
      refine RRow.cg (r2 (k + 1) (by omega)) (fun j => c6 _ l10 ne j) (fun f hf => by rw [mo _ (by omega)]; congr 1; omega) (Nat.le_of_eq ew.symm) lw (fun q => ⟨by omega, ?_⟩)
      unfold cK
      rw [mo _ (by omega)]
      congr 2
      omega
theorem wm_hi {W : List (Nat × Nat)} (hW : W.all (fun q => Nat.blt 62 q.1) = true) {a j : Nat} (ha : a < 63) : wm W a j = false := by
  unfold wm
  rw [List.any_eq_false]
  intro q hq
  have z := List.all_eq_true.mp hW q hq
  have z2 : 62 < q.1 := Nat.le_of_ble_eq_true z
  have e : Nat.beq q.1 a = false := by
    cases y : Nat.beq q.1 a with
    | false => rfl
    | true => have := Nat.eq_of_beq_eq_true y; omega
  rw [e, Bool.false_and]
  exact Bool.false_ne_true
theorem wm_lo {W : List (Nat × Nat)} (hW : W.all (fun q => Nat.blt q.1 63) = true) {a j : Nat} (ha : 63 ≤ a) : wm W a j = false := by
  unfold wm
  rw [List.any_eq_false]
  intro q hq
  have z := List.all_eq_true.mp hW q hq
  have z2 : q.1 < 63 := Nat.le_of_ble_eq_true z
  have e : Nat.beq q.1 a = false := by
    cases y : Nat.beq q.1 a with
    | false => rfl
    | true => have := Nat.eq_of_beq_eq_true y; omega
  rw [e, Bool.false_and]
  exact Bool.false_ne_true
theorem bx_row13 {h : Hp} (hB : Bx h) {n : Nat} (hn : n < 10) (j : Nat) : B (if j < 6 then (if j = 5 then h 4 6 else h 2 j) else if j < 18 then h 9 (j - 6) else if j < 30 then h 10 (j - 18) else h (13 + n) j) (bx (13 + n) j).1 (bx (13 + n) j).2 := by
  by_cases q : j < 6
  · rw [if_pos q]
    rcases (show j = 0 ∨ j = 1 ∨ j = 2 ∨ j = 3 ∨ j = 4 ∨ j = 5 by omega) with rfl | rfl | rfl | rfl | rfl | rfl
    · rw [if_neg (by decide)]
      rcases (show n = 0 ∨ n = 1 ∨ n = 2 ∨ n = 3 ∨ n = 4 ∨ n = 5 ∨ n = 6 ∨ n = 7 ∨ n = 8 ∨ n = 9 by omega) with rfl | rfl | rfl | rfl | rfl | rfl | rfl | rfl | rfl | rfl <;> exact hB 2 0
    · rw [if_neg (by decide)]
      rcases (show n = 0 ∨ n = 1 ∨ n = 2 ∨ n = 3 ∨ n = 4 ∨ n = 5 ∨ n = 6 ∨ n = 7 ∨ n = 8 ∨ n = 9 by omega) with rfl | rfl | rfl | rfl | rfl | rfl | rfl | rfl | rfl | rfl <;> exact B.any _
    · rw [if_neg (by decide)]
      rcases (show n = 0 ∨ n = 1 ∨ n = 2 ∨ n = 3 ∨ n = 4 ∨ n = 5 ∨ n = 6 ∨ n = 7 ∨ n = 8 ∨ n = 9 by omega) with rfl | rfl | rfl | rfl | rfl | rfl | rfl | rfl | rfl | rfl <;> exact B.any _
    · rw [if_neg (by decide)]
      rcases (show n = 0 ∨ n = 1 ∨ n = 2 ∨ n = 3 ∨ n = 4 ∨ n = 5 ∨ n = 6 ∨ n = 7 ∨ n = 8 ∨ n = 9 by omega) with rfl | rfl | rfl | rfl | rfl | rfl | rfl | rfl | rfl | rfl <;> exact hB 2 3
    · rw [if_neg (by decide)]
      rcases (show n = 0 ∨ n = 1 ∨ n = 2 ∨ n = 3 ∨ n = 4 ∨ n = 5 ∨ n = 6 ∨ n = 7 ∨ n = 8 ∨ n = 9 by omega) with rfl | rfl | rfl | rfl | rfl | rfl | rfl | rfl | rfl | rfl <;> exact B.any _
    · rcases (show n = 0 ∨ n = 1 ∨ n = 2 ∨ n = 3 ∨ n = 4 ∨ n = 5 ∨ n = 6 ∨ n = 7 ∨ n = 8 ∨ n = 9 by omega) with rfl | rfl | rfl | rfl | rfl | rfl | rfl | rfl | rfl | rfl <;> exact B.any _
  · obtain ⟨k, rfl⟩ : ∃ k, j = k + 6 := ⟨j - 6, by omega⟩
    rcases (show n = 0 ∨ n = 1 ∨ n = 2 ∨ n = 3 ∨ n = 4 ∨ n = 5 ∨ n = 6 ∨ n = 7 ∨ n = 8 ∨ n = 9 by omega) with rfl | rfl | rfl | rfl | rfl | rfl | rfl | rfl | rfl | rfl <;> exact B.any _
theorem jw_keep {h : Hp} (hB : Bx h) {n : Nat} (hn : n < 10) : JW [(11, 1), (11, 2), (11, 3), (13, 999), (14, 999), (15, 999), (16, 999), (17, 999), (18, 999), (19, 999), (20, 999), (21, 999), (22, 999)] h (k_keep h n) := by
  have kc := kc_keep h hn
  refine ⟨fun i j => ?_, fun i j q => ?_⟩
  · by_cases e : i = 13 + n
    · subst e
      have z := bx_row13 hB hn j
      unfold k_keep
      rw [if_pos rfl]
      exact z
    · by_cases e2 : i = 11
      · subst e2
        by_cases j1 : j = 1
        · subst j1
          rw [kc.1]
          exact (nI_B (by omega) (by omega) : B (nI ((n + 1) % 10)) 0 9)
        · by_cases j0 : j = 0
          · subst j0
            unfold k_keep
            rw [if_neg e, if_pos rfl, if_neg (by decide), if_neg (by decide), if_neg (by decide)]
            exact hB 11 0
          · obtain ⟨k, rfl⟩ : ∃ k, j = k + 2 := ⟨j - 2, by omega⟩
            exact B.any _
      · rw [k_keep_ne e e2]
        exact hB i j
  · by_cases e : i = 13 + n
    · subst e
      rcases (show n = 0 ∨ n = 1 ∨ n = 2 ∨ n = 3 ∨ n = 4 ∨ n = 5 ∨ n = 6 ∨ n = 7 ∨ n = 8 ∨ n = 9 by omega) with rfl | rfl | rfl | rfl | rfl | rfl | rfl | rfl | rfl | rfl <;> cases q
    · by_cases e2 : i = 11
      · subst e2
        have j1 : j ≠ 1 := fun z => by subst z; cases q
        have j2 : j ≠ 2 := fun z => by subst z; cases q
        have j3 : j ≠ 3 := fun z => by subst z; cases q
        unfold k_keep
        rw [if_neg e, if_pos rfl, if_neg j1, if_neg j2, if_neg j3]
      · exact k_keep_ne e e2
theorem bx_71 (j : Nat) : bx 71 j = bk (j % 42) := rfl
theorem bk_else {f : Nat} (h0 : f ≠ 0) (h3 : f ≠ 3) (h5 : f ≠ 5) : bk f = (-2147483648, 2147483647) := by
  unfold bk
  split
  · exact absurd rfl h0
  · exact absurd rfl h3
  · exact absurd rfl h5
  · rfl
theorem jw_mkp {h : Hp} (hB : Bx h) : JW [(63, 13), (71, 999)] h (k_mkp h) := by
  obtain ⟨m1, m2, m3, m4, m5⟩ := km_keep hB
  generalize hr : (if nA_ h = 10 then 9 else nA_ h) = r at *
  have lr : r ≤ 9 := by rcases m5 with z | z <;> omega
  refine ⟨fun i j => ?_, fun i j q => ?_⟩
  · by_cases e : i = 71
    · subst e
      rw [bx_71]
      by_cases c1 : j < 42 * r
      · rcases m5 with z | z
        · rw [z.2.2 j (by omega)]; exact hB 71 j
        · rw [z.2.2 j (by omega)]
          have y := hB 71 (j + 42)
          rw [bx_71, Nat.add_mod_right] at y
          exact y
      · by_cases c2 : j < 42 * r + 42
        · obtain ⟨f, hf, rfl⟩ : ∃ f, f < 42 ∧ j = 42 * r + f := ⟨j - 42 * r, by omega, by omega⟩
          rw [show (42 * r + f) % 42 = f by omega]
          by_cases f0 : f = 0
          · subst f0; rw [m1 0 (by decide)]; exact hB 63 0
          · by_cases f3 : f = 3
            · subst f3; rw [m1 3 (by decide)]; exact hB 63 3
            · by_cases f5 : f = 5
              · subst f5; rw [m2]; exact hB 63 5
              · rw [bk_else f0 f3 f5]; exact B.any _
        · have y : k_mkp h 71 j = h 71 j := by
            unfold k_mkp
            split
            · rename_i q10
              have ra : r = 9 := by
                rcases m5 with z | z
                · exfalso
                  have p10 : B (h 63 13) 0 10 := hB 63 13
                  have ea : nA_ h = 10 := by unfold nA_; rw [q10]; rfl
                  omega
                · exact z.2.1
              rw [k_mkeep_71, k_mk_out (by omega) 12 (by decide), ev_rd2 (by decide), k_msh_ge (by omega)]
            · rename_i q10
              have ra : r = nA_ h := by
                rcases m5 with z | z
                · exact z.2.1
                · exfalso
                  have p10 : B (h 63 13) 0 10 := hB 63 13
                  exact q10 ((B.nI (u := 10) p10).1.trans (by show nI (nA_ h) = 10; rw [z.1]; rfl))
              rw [k_mkeep_71, k_mk_out (by unfold nA_ at ra; omega) 12 (by decide)]
          rw [y]; exact hB 71 j
    · by_cases e2 : i = 63
      · subst e2
        by_cases j13 : j = 13
        · subst j13
          rw [m4]
          exact (nI_B (by omega) (by omega) : B (nI (r + 1)) 0 10)
        · rw [k_mkp_63 j13]; exact hB 63 j
      · rw [k_mkp_o e e2]; exact hB i j
  · by_cases e : i = 71
    · subst e; cases q
    · by_cases e2 : i = 63
      · subst e2
        exact k_mkp_63 (fun z => by subst z; cases q)
      · exact k_mkp_o e e2
theorem KMk.cg {h h1 z h2 : Hp} {a r : Nat} (km : KMk h1 z a r) (e : ∀ i j, 63 ≤ i → h1 i j = h i j) (e71 : ∀ j, h2 71 j = z 71 j) (e13 : h2 63 13 = z 63 13) : KMk h h2 a r := by
  obtain ⟨m1, m2, m3, m4, m5⟩ := km
  refine ⟨fun f hf => by rw [e71, m1 f hf, e 63 f (by decide)], by rw [e71, m2, e 63 5 (by decide)], fun w hw => ?_, by rw [e13]; exact m4, ?_⟩
  · have y := m3 w hw
    rw [e71, e71, e71, y.1, y.2.1, y.2.2, e 68 w (by decide), e 69 w (by decide), e 70 w (by decide)]
    exact ⟨rfl, rfl, rfl⟩
  · rcases m5 with ⟨y1, y2, y3⟩ | ⟨y1, y2, y3⟩
    · exact Or.inl ⟨y1, y2, fun j hj => by rw [e71, y3 j hj, e 71 j (by decide)]⟩
    · exact Or.inr ⟨y1, y2, fun j hj => by rw [e71, y3 j hj, e 71 _ (by decide)]⟩
/-- an act on both sides -/
theorem act_re {h h1 h2 : Hp} (hB : Bx h) (hB1 : Bx h1) (hE : RE h) (kc : ∀ j, h1 11 j = k_keep h (nX h) 11 j) (kr : ∀ i, i < 10 → ∀ j, h1 (13 + i) j = k_keep h (nX h) (13 + i) j) (c63 : ∀ i j, 63 ≤ i → h1 i j = h i j) (f11 : ∀ j, h2 11 j = h1 11 j) (f13 : ∀ i, i < 10 → ∀ j, h2 (13 + i) j = h1 (13 + i) j) (m71 : ∀ j, h2 71 j = k_mkp h1 71 j) (m13 : h2 63 13 = k_mkp h1 63 13) (ew : nW h2 = nW h) (hb : RBo h2) (hw : RWs h2) : RE h2 := by
  have ln : nX h < 10 := by have := (B.nI (u := 9) (hB 11 1)).2; unfold nX; omega
  have e13 : nA_ h1 = nA_ h := by unfold nA_; rw [c63 63 13 (by decide)]
  have kc2 : KC h h2 (nX h) := KC.cg ln (KC.cg ln (kc_keep h ln) kc kr) f11 f13
  have km := km_keep hB1
  rw [e13] at km
  have km2 := KMk.cg km c63 m71 m13
  obtain ⟨z1, z2, z3⟩ := rel_acts hB hE kc2 km2 ew
  refine ⟨hb, hw, z1, fun _ => ?_⟩
  rw [z2, Nat.add_sub_cancel, z3, ← ew]
  exact hw.2.2

