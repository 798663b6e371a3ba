/-- nothing beyond c: stems, cracks, leaking keys -/
def ZB (st cr : Nat → Int32) (lk : Int32) (c : Nat) : Prop := ∀ w, c ≤ w → w < 12 → st w = 0 ∧ cr w = 0 ∧ lk >>> (nI w &&& 31) &&& 1 = 0
def nW (h : Hp) : Nat := (h 4 7).toNatClampNeg
def nA_ (h : Hp) : Nat := (h 63 13).toNatClampNeg
def nX (h : Hp) : Nat := (h 11 1).toNatClampNeg
def cK (h : Hp) (k : Nat) : Nat := (h 71 (42 * k + 5)).toNatClampNeg
def rI (h : Hp) (k : Nat) : Nat := (nX h + 10 - nA_ h + k) % 10
def RBo (h : Hp) : Prop := h 2 0 = h 63 0 ∧ h 2 1 = h 63 1 ∧ h 2 2 = h 63 2 ∧ h 2 3 = h 63 3 ∧ h 2 4 = h 63 4
def RW1 (h : Hp) (w : Nat) : Prop := h 5 w = h 64 w ∧ h 6 w = h 65 w ∧ h 7 w = h 66 w ∧ h 8 w = h 67 w ∧ h 9 w = h 68 w ∧ h 10 w = h 69 w ∧ h 4 6 >>> (nI w &&& 31) &&& 1 = h 70 w ∧ B (h 6 w) 1 9
def RWs (h : Hp) : Prop := h 4 7 = h 63 5 ∧ (∀ w, w < nW h → RW1 h w) ∧ ZB (h 9) (h 10) (h 4 6) (nW h)
/-- the class's row i of the ring is the model's row k -/
def RRow (h : Hp) (i k : Nat) : Prop := (∀ f, f < 5 → h (13 + i) f = h 71 (42 * k + f)) ∧ cK h k ≤ nW h ∧ (∀ w, w < cK h k → h (13 + i) (6 + w) = h 71 (42 * k + 6 + w) ∧ h (13 + i) (18 + w) = h 71 (42 * k + 18 + w) ∧ h (13 + i) 5 >>> (nI w &&& 31) &&& 1 = h 71 (42 * k + 30 + w)) ∧ ZB (fun w => h (13 + i) (6 + w)) (fun w => h (13 + i) (18 + w)) (h (13 + i) 5) (cK h k) ∧ (1 ≤ k → ZB (fun w => h (13 + i) (6 + w)) (fun w => h (13 + i) (18 + w)) (h (13 + i) 5) (cK h (k - 1)))
def RAr (h : Hp) : Prop := h 11 2 = h 63 13 ∧ ∀ k, k < nA_ h → RRow h (rI h k) k
def RAc (h : Hp) : Prop := RAr h ∧ (1 ≤ nA_ h → ZB (h 9) (h 10) (h 4 6) (cK h (nA_ h - 1)))
def RE (h : Hp) : Prop := RBo h ∧ RWs h ∧ RAc h
theorem RRow.cg {h h1 : Hp} {i i' k k' : Nat} (hR : RRow h i k) (e1 : ∀ j, h1 (13 + i') j = h (13 + i) j) (e2 : ∀ f, f < 42 → h1 71 (42 * k' + f) = h 71 (42 * k + f)) (e3 : nW h ≤ nW h1) (h12 : nW h ≤ 12) (e4 : 1 ≤ k' → 1 ≤ k ∧ cK h1 (k' - 1) = cK h (k - 1)) : RRow h1 i' k' := by
  obtain ⟨a1, a2, a3, a4, a5⟩ := hR
  have ec : cK h1 k' = cK h k := by unfold cK; rw [e2 5 (by decide)]
  unfold RRow
  rw [ec]
  have g1 : (fun w => h1 (13 + i') (6 + w)) = (fun w => h (13 + i) (6 + w)) := funext (fun w => e1 _)
  have g2 : (fun w => h1 (13 + i') (18 + w)) = (fun w => h (13 + i) (18 + w)) := funext (fun w => e1 _)
  rw [g1, g2, e1 5]
  refine ⟨fun f hf => by rw [e1, e2 f (by omega)]; exact a1 f hf, by omega, fun w hw => ?_, a4, fun q => ?_⟩
  · by_cases w12 : w < 12
    · have z := a3 w hw
      rw [e1, e1, Nat.add_assoc (42 * k') 6 w, Nat.add_assoc (42 * k') 18 w, Nat.add_assoc (42 * k') 30 w, e2 (6 + w) (by omega), e2 (18 + w) (by omega), e2 (30 + w) (by omega), ← Nat.add_assoc, ← Nat.add_assoc, ← Nat.add_assoc]
      exact z
    · exact absurd hw (by omega)
  · rw [(e4 q).2]; exact a5 (e4 q).1
/-- what the class's keep leaves: row n is what stood -/
def KC (h h1 : Hp) (n : Nat) : Prop := h1 11 1 = nI ((n + 1) % 10) ∧ h1 11 2 = z_min 10 (h 11 2 + 1) ∧ (∀ j, j < 5 → h1 (13 + n) j = h 2 j) ∧ h1 (13 + n) 5 = h 4 6 ∧ (∀ w, w < 12 → h1 (13 + n) (6 + w) = h 9 w ∧ h1 (13 + n) (18 + w) = h 10 w) ∧ ∀ i, i < 10 → i ≠ n → ∀ j, h1 (13 + i) j = h (13 + i) j
theorem kc_keep (h : Hp) {n : Nat} (hn : n < 10) : KC h (k_keep h n) n := by
  have e0 : ∀ j, k_keep h n (13 + n) j = if j < 6 then (if j = 5 then h 4 6 else h 2 j) else if j < 18 then h 9 (j - 6) else if j < 30 then h 10 (j - 18) else h (13 + n) j := fun j => if_pos rfl
  have e1 : ∀ j, k_keep h n 11 j = if j = 1 then (nI n + 1) - (nI n + 1) / 10 * 10 else if j = 2 then z_min 10 (h 11 2 + 1) else if j = 3 then h 11 3 + 1 else h 11 j := fun j => by
    unfold k_keep
    rw [if_neg (by omega), if_pos rfl]
  refine ⟨?_, ?_, fun j hj => ?_, ?_, fun w hw => ⟨?_, ?_⟩, fun i hi hne j => ?_⟩
  · rw [e1, if_pos rfl]
    rcases (show n = 0 ∨ n = 1 ∨ n = 2 ∨ n = 3 ∨ n = 4 ∨ n = 5 ∨ n = 6 ∨ n = 7 ∨ n = 8 ∨ n = 9 by omega) with rfl | rfl | rfl | rfl | rfl | rfl | rfl | rfl | rfl | rfl <;> decide
  · rw [e1, if_neg (by decide), if_pos rfl]
  · rw [e0, if_pos (by omega), if_neg (by omega)]
  · rw [e0, if_pos (by decide), if_pos rfl]
  · rw [e0, if_neg (by omega), if_pos (by omega), show 6 + w - 6 = w by omega]
  · rw [e0, if_neg (by omega), if_neg (by omega), if_pos (by omega), show 18 + w - 18 = w by omega]
  · exact k_keep_ne (by omega) (by omega)
theorem KC.cg {h h1 h2 : Hp} {n : Nat} (hn : n < 10) (k : KC h h1 n) (e1 : ∀ j, h2 11 j = h1 11 j) (e2 : ∀ i, i < 10 → ∀ j, h2 (13 + i) j = h1 (13 + i) j) : KC h h2 n := by
  obtain ⟨a1, a2, a3, a4, a5, a6⟩ := k
  refine ⟨by rw [e1]; exact a1, by rw [e1]; exact a2, fun j hj => by rw [e2 n hn]; exact a3 j hj, by rw [e2 n hn]; exact a4, fun w hw => ?_, fun i hi hne j => by rw [e2 i hi]; exact a6 i hi hne j⟩
  rw [e2 n hn, e2 n hn]
  exact a5 w hw
/-- what the model's keeps leaves, a acts being kept before -/
def KMk (h h2 : Hp) (a r : Nat) : Prop := (∀ f, f < 5 → h2 71 (42 * r + f) = h 63 f) ∧ h2 71 (42 * r + 5) = h 63 5 ∧ (∀ w, w < 12 → h2 71 (42 * r + 6 + w) = h 68 w ∧ h2 71 (42 * r + 18 + w) = h 69 w ∧ h2 71 (42 * r + 30 + w) = z_01 (h 70 w)) ∧ h2 63 13 = nI (r + 1) ∧ ((a < 10 ∧ r = a ∧ ∀ j, j < 42 * a → h2 71 j = h 71 j) ∨ (a = 10 ∧ r = 9 ∧ ∀ j, j < 378 → h2 71 j = h 71 (j + 42)))
theorem k_mk_out {h : Hp} {n j : Nat} (q : j < 42 * n ∨ 42 * n + 42 ≤ j) : ∀ t, t ≤ 12 → k_mk h n t 71 j = h 71 j
  | 0, _ => by
    unfold k_mk k_mk0
    rw [ev_rd3 (by omega), ev_rd3 (by omega), ev_rd3 (by omega), ev_rd3 (by omega), ev_rd3 (by omega), ev_rd3 (by omega)]
  | t + 1, ht => by
    unfold k_mk
    rw [ev_rd3 (by omega), ev_rd3 (by omega), ev_rd3 (by omega)]
    exact k_mk_out q t (by omega)
theorem k_mk_hd {h : Hp} {n f : Nat} (hf : f < 6) : ∀ t, t ≤ 12 → k_mk h n t 71 (42 * n + f) = h 63 f
  | 0, _ => by
    unfold k_mk k_mk0
    rcases (show f = 0 ∨ f = 1 ∨ f = 2 ∨ f = 3 ∨ f = 4 ∨ f = 5 by omega) with rfl | rfl | rfl | rfl | rfl | rfl
    · rw [ev_rd3 (by omega), ev_rd3 (by omega), ev_rd3 (by omega), ev_rd3 (by omega), ev_rd3 (by omega)]
      exact ev_rd1 _ _ _ _
    · rw [ev_rd3 (by omega), ev_rd3 (by omega), ev_rd3 (by omega), ev_rd3 (by omega)]
      exact ev_rd1 _ _ _ _
    · rw [ev_rd3 (by omega), ev_rd3 (by omega), ev_rd3 (by omega)]
      exact ev_rd1 _ _ _ _
    · rw [ev_rd3 (by omega), ev_rd3 (by omega)]
      exact ev_rd1 _ _ _ _
    · rw [ev_rd3 (by omega)]
      exact ev_rd1 _ _ _ _
    · exact ev_rd1 _ _ _ _
  | t + 1, ht => by
    unfold k_mk
    rw [ev_rd3 (by omega), ev_rd3 (by omega), ev_rd3 (by omega)]
    exact k_mk_hd hf t (by omega)
theorem k_mk_w {h : Hp} {n i : Nat} : ∀ t, t ≤ 12 → i < t → k_mk h n t 71 (42 * n + 6 + i) = h 68 i ∧ k_mk h n t 71 (42 * n + 18 + i) = h 69 i ∧ k_mk h n t 71 (42 * n + 30 + i) = z_01 (h 70 i)
  | 0, _, hi => absurd hi (by omega)
  | t + 1, ht, hi => by
    unfold k_mk
    by_cases e : i = t
    · subst e
      refine ⟨?_, ?_, ev_rd1 _ _ _ _⟩
      · rw [ev_rd3 (by omega), ev_rd3 (by omega)]; exact ev_rd1 _ _ _ _
      · rw [ev_rd3 (by omega)]; exact ev_rd1 _ _ _ _
    · have z := k_mk_w (h := h) (n := n) (i := i) t (by omega) (by omega)
      refine ⟨?_, ?_, ?_⟩
      · rw [ev_rd3 (by omega), ev_rd3 (by omega), ev_rd3 (by omega)]; exact z.1
      · rw [ev_rd3 (by omega), ev_rd3 (by omega), ev_rd3 (by omega)]; exact z.2.1
      · rw [ev_rd3 (by omega), ev_rd3 (by omega), ev_rd3 (by omega)]; exact z.2.2
theorem k_mkeep_71 {h : Hp} {n j : Nat} : k_mkeep h n 71 j = k_mk h n 12 71 j := ev_rd2 (by decide)
theorem km_keep {h : Hp} (hB : Bx h) : KMk h (k_mkp h) (nA_ h) (if nA_ h = 10 then 9 else nA_ h) := by
  have p10 : B (h 63 13) 0 10 := hB 63 13
  have en := B.nI (u := 10) p10
  have ea : h 63 13 = nI (nA_ h) := en.1
  have la : nA_ h ≤ 10 := en.2
  unfold k_mkp
  by_cases q : nA_ h = 10
  · have q1 : h 63 13 = 10 := by rw [ea, q]; rfl
    rw [if_pos q, if_pos q1]
    have m63 : ∀ j, j ≠ 13 → ev_set (k_msh h 378) 63 13 9 63 j = h 63 j := fun j hj => by rw [ev_rd3 hj, k_msh_ne (by decide)]
    have mo : ∀ i j, i ≠ 63 → i ≠ 71 → ev_set (k_msh h 378) 63 13 9 i j = h i j := fun i j h1 h2 => by rw [ev_rd2 h1, k_msh_ne h2]
    refine ⟨fun f hf => ?_, ?_, fun w hw => ?_, ?_, Or.inr ⟨q, rfl, fun j hj => ?_⟩⟩
    · rw [k_mkeep_71, k_mk_hd (by omega) 12 (by decide)]; exact m63 f (by omega)
    · rw [k_mkeep_71, k_mk_hd (by decide) 12 (by decide)]; exact m63 5 (by decide)
    · have z := k_mk_w (h := ev_set (k_msh h 378) 63 13 9) (n := 9) (i := w) 12 (by decide) hw
      rw [k_mkeep_71, k_mkeep_71, k_mkeep_71, z.1, z.2.1, z.2.2, mo 68 w (by decide) (by decide), mo 69 w (by decide) (by decide), mo 70 w (by decide) (by decide)]
      exact ⟨rfl, rfl, rfl⟩
    · unfold k_mkeep
      rw [ev_rd1, ev_rd1]
      rfl
    · rw [k_mkeep_71, k_mk_out (by omega) 12 (by decide), ev_rd2 (by decide), k_msh_lt hj]
  · have q1 : ¬ h 63 13 = 10 := fun z => q ((nI_eq (a := nA_ h) (b := 10) (by omega) (by decide)).mp (ea.symm.trans z))
    rw [if_neg q, if_neg q1]
    refine ⟨fun f hf => ?_, ?_, fun w hw => ?_, ?_, Or.inl ⟨by omega, rfl, fun j hj => ?_⟩⟩
    · rw [k_mkeep_71]; exact k_mk_hd (by omega) 12 (by decide)
    · rw [k_mkeep_71]; exact k_mk_hd (by decide) 12 (by decide)
    · have z := k_mk_w (h := h) (n := nA_ h) (i := w) 12 (by decide) hw
      rw [k_mkeep_71, k_mkeep_71, k_mkeep_71]
      exact z
    · unfold k_mkeep
      rw [ev_rd1]
      have := nI_1 (nA_ h)
      rw [← this, ← ea]
    · rw [k_mkeep_71]; exact k_mk_out (Or.inl hj) 12 (by decide)
theorem z_mn10 {a : Nat} (ha : a ≤ 10) : z_min 10 (nI a + 1) = nI (if a = 10 then 10 else a + 1) := by
  rcases (show a = 0 ∨ a = 1 ∨ a = 2 ∨ a = 3 ∨ a = 4 ∨ a = 5 ∨ a = 6 ∨ a = 7 ∨ a = 8 ∨ a = 9 ∨ a = 10 by omega) with rfl | rfl | rfl | rfl | rfl | rfl | rfl | rfl | rfl | rfl | rfl <;> decide
theorem bit_01 (x y : Int32) : x >>> y &&& 1 = 0 ∨ x >>> y &&& 1 = 1 := bit01 _
theorem z_01_bit {x y u : Int32} (e : x >>> y &&& 1 = u) : z_01 u = u := by
  subst e
  unfold z_01
  rcases bit_01 x y with q | q
  · rw [if_pos q, q]
  · rw [if_neg (by rw [q]; decide), q]
/-- both have kept: the rows agree again, and the last of them is what stood -/
theorem rel_acts {h h2 : Hp} (hB : Bx h) (hE : RE h) (kc : KC h h2 (nX h)) {r : Nat} (km : KMk h h2 (nA_ h) r) (ew : nW h2 = nW h) : RAr h2 ∧ nA_ h2 = r + 1 ∧ cK h2 r = nW h := by
  obtain ⟨hb, ⟨w1, w2, w3⟩, ⟨r1, r2⟩, r3⟩ := hE
  obtain ⟨c1, c2, c3, c4, c5, c6⟩ := kc
  obtain ⟨m1, m2, m3, m4, m5⟩ := km
  have p10 : B (h 63 13) 0 10 := hB 63 13
  have ea : h 63 13 = nI (nA_ h) := (B.nI (u := 10) p10).1
  have la : nA_ h ≤ 10 := (B.nI (u := 10) p10).2
  have ln : nX h ≤ 9 := (B.nI (u := 9) (hB 11 1)).2
  have lw : nW h ≤ 12 := (B.nI (u := 12) (hB 4 7)).2
  have lr : r ≤ 9 := by rcases m5 with z | z <;> omega
  have en : nX h2 = (nX h + 1) % 10 := by unfold nX at *; rw [c1]; exact nI_clamp (by omega)
  have ea2 : nA_ h2 = r + 1 := by unfold nA_; rw [m4]; exact nI_clamp (by omega)
  have ck : cK h2 r = nW h := by unfold cK nW; rw [m2, w1]
  have e112 : h2 11 2 = h2 63 13 := by
    rw [c2, r1, ea, z_mn10 la, m4]
    rcases m5 with z | z
    · rw [if_neg (by omega), z.2.1]
    · rw [if_pos z.1, z.2.1]
  -- the new row
  have new : (1 ≤ r → ZB (h 9) (h 10) (h 4 6) (cK h2 (r - 1))) → RRow h2 (nX h) r := fun hz => by
    have g1 : ∀ w, w < 12 → h2 (13 + nX h) (6 + w) = h 9 w := fun w hw => (c5 w hw).1
    have g2 : ∀ w, w < 12 → h2 (13 + nX h) (18 + w) = h 10 w := fun w hw => (c5 w hw).2
    unfold RRow
    rw [ck, ew, c4]
    refine ⟨fun f hf => ?_, Nat.le_refl _, fun w hw => ?_, fun w hw h12 => ?_, fun q w hw h12 => ?_⟩
    · rw [c3 f hf, m1 f hf]
      obtain ⟨b0, b1, b2, b3, b4⟩ := hb
      rcases (show f = 0 ∨ f = 1 ∨ f = 2 ∨ f = 3 ∨ f = 4 by omega) with rfl | rfl | rfl | rfl | rfl <;> assumption
    · obtain ⟨-, -, -, -, v9, v10, vb, -⟩ := w2 w hw
      have z := m3 w (by omega)
      rw [g1 w (by omega), g2 w (by omega), z.1, z.2.1, z.2.2]
      exact ⟨v9, v10, by rw [z_01_bit vb]; exact vb⟩
    · have z := w3 w hw h12
      exact ⟨(g1 w h12).trans z.1, (g2 w h12).trans z.2.1, z.2.2⟩
    · have z := hz q w hw h12
      exact ⟨(g1 w h12).trans z.1, (g2 w h12).trans z.2.1, z.2.2⟩
  refine ⟨⟨e112, fun k hk => ?_⟩, ea2, ck⟩
  rw [ea2] at hk
  unfold rI
  rw [en, ea2]
  rcases m5 with ⟨h10, rfl, mo⟩ | ⟨h10, rfl, mo⟩
  · by_cases e : k = nA_ h
    · subst e
      rw [show ((nX h + 1) % 10 + 10 - (nA_ h + 1) + nA_ h) % 10 = nX h by omega]
      refine new (fun q => ?_)
      have ec : cK h2 (nA_ h - 1) = cK h (nA_ h - 1) := by unfold cK; rw [mo _ (by omega)]
      rw [ec]
      exact r3 q
    · rw [show ((nX h + 1) % 10 + 10 - (nA_ h + 1) + k) % 10 = rI h k by unfold rI; omega]
      have ne : rI h k ≠ nX h := by unfold rI; omega
      have l10 : rI h k < 10 := Nat.mod_lt _ (by decide)
      refine RRow.cg (r2 k (by omega)) (fun j => c6 _ l10 ne j) (fun f hf => mo _ (by omega)) (Nat.le_of_eq ew.symm) lw (fun q => ⟨q, ?_⟩)
      unfold cK
      rw [mo _ (by omega)]
  · by_cases e : k = 9
    · subst e
      rw [show ((nX h + 1) % 10 + 10 - (9 + 1) + 9) % 10 = nX h by omega]
      refine new (fun _ => ?_)
      have ec : cK h2 (9 - 1) = cK h (nA_ h - 1) := by unfold cK; rw [mo _ (by omega), h10]
      rw [ec]
      exact r3 (by omega)
    · rw [show ((nX h + 1) % 10 + 10 - (9 + 1) + k) % 10 = rI h (k + 1) by unfold rI; omega]
      have ne : rI h (k + 1) ≠ nX h := by unfold rI; omega
      have l10 : rI h (k + 1) < 10 := Nat.mod_lt _ (by decide)
      refine RRow.cg (r2 (k + 1) (by omega)) (fun j => c6 _ l10 ne j) (fun f hf => by rw [mo _ (by omega)]; congr 1; omega) (Nat.le_of_eq ew.symm) lw (fun q => ⟨by omega, ?_⟩)
      unfold cK
      rw [mo _ (by omega)]
      congr 2
      omega
