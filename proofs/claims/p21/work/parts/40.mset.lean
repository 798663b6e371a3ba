def zth (g : Hp) (p d : Int32) : Int32 := if 0 ≤ p + 2 * g 63 2 - d then (if p + 2 * g 63 2 - d ≤ g 63 3 then p + 2 * g 63 2 - d else g 63 3) else 0

set_option maxRecDepth 100000 in
set_option maxHeartbeats 4000000 in
theorem c_mthen (L : Nat) (b : Bool) (h : Hp) (p d : Int32) : EvD mi_X10_then [.ref 63, .int p, .int d] (G0 L b) h (zth h p d) (h) := by
  refine EvD.of (lo := [some (.ref 63), some (.int p), some (.int d), none]) pf_X10_then ok_X10_then rfl rfl ?_
  refine ev_iload_n rfl rfl rfl ?_
  refine ev_iconst (v := 2) rfl rfl (by decide) ?_
  refine ev_aload_n rfl rfl rfl ?_
  refine ev_getI rfl rfl fl_X10_16 rfl rfl rfl ?_
  refine ev_imul rfl rfl ?_
  refine ev_iadd rfl rfl ?_
  refine ev_iload_n rfl rfl rfl ?_
  refine ev_isub rfl rfl ?_
  refine ev_istore_n rfl rfl rfl rfl ?_
  dsimp only [List.set]
  refine ev_iload_n rfl rfl rfl ?_
  refine ev_if_ge rfl rfl (fun c_12 => ?_) (fun c_12 => ?_)
  · refine ev_iload_n rfl rfl rfl ?_
    refine ev_aload_n rfl rfl rfl ?_
    refine ev_getI rfl rfl fl_X10_19 rfl rfl rfl ?_
    refine ev_icmp_le rfl rfl (fun c_24 => ?_) (fun c_24 => ?_)
    · refine ev_iload_n rfl rfl rfl ?_
      exact ev_iret rfl rfl rfl (⟨congrArg (fun z => some (Value.int z)) (by simp only [zth, if_pos c_12, if_pos c_24]), rfl, rfl⟩)
    · refine ev_aload_n rfl rfl rfl ?_
      refine ev_getI rfl rfl fl_X10_19 rfl rfl rfl ?_
      refine ev_goto rfl rfl ?_
      exact ev_iret rfl rfl rfl (⟨congrArg (fun z => some (Value.int z)) (by simp only [zth, if_pos c_12, if_neg c_24]), rfl, rfl⟩)
  · refine ev_iconst (v := 0) rfl rfl (by decide) ?_
    refine ev_goto rfl rfl ?_
    exact ev_iret rfl rfl rfl (⟨congrArg (fun z => some (Value.int z)) (by simp only [zth, if_neg c_12]), rfl, rfl⟩)

def sx (i r p : Int) : Nat := (1809 * i + 201 * r + p).toNat
def th (g : Hp) (p : Int) (d : Int32) : Int := (zth g (Int32.ofInt p) d).toInt
theorem zth_B {g : Hp} (h3 : B (g 63 3) 0 200) (p d : Int32) : B (zth g p d) 0 200 ∧ (zth g p d).toInt ≤ (g 63 3).toInt := by
  have q3 := h3.1
  have q4 := h3.2
  have e0 : (0 : Int32).toInt = 0 := by decide
  unfold zth
  split
  · rename_i q
    have := w_le q
    split
    · rename_i q2
      have := w_le q2
      exact ⟨⟨by omega, by omega⟩, by omega⟩
    · exact ⟨h3, Int.le_refl _⟩
  · rw [e0]; exact ⟨by decide, by omega⟩
theorem th_eq (g : Hp) (p d : Int32) : th g p.toInt d = (zth g p d).toInt := by
  unfold th
  rw [Int32.ofInt_toInt]
theorem zth_congr {g g' : Hp} (e2 : g' 63 2 = g 63 2) (e3 : g' 63 3 = g 63 3) (p d : Int32) : zth g' p d = zth g p d := by
  unfold zth
  rw [e2, e3]
theorem sx_of {x : Int32} {i r p : Int} (e : x.toInt = 1809 * i + 201 * r + p) : x.toNatClampNeg = sx i r p := by
  unfold sx
  rw [← e]
  rfl
theorem sx_inj {i r p i1 r1 p1 : Int} (h0 : 0 ≤ i) (h1 : 0 ≤ r) (h2 : r ≤ 8) (h3 : 0 ≤ p) (h4 : p ≤ 200) (k0 : 0 ≤ i1) (k1 : 0 ≤ r1) (k2 : r1 ≤ 8) (k3 : 0 ≤ p1) (k4 : p1 ≤ 200) (e : sx i r p = sx i1 r1 p1) : i = i1 ∧ r = r1 ∧ p = p1 := by
  unfold sx at e
  have e2 : 1809 * i + 201 * r + p = 1809 * i1 + 201 * r1 + p1 := by omega
  have hi : i = i1 := by omega
  subst hi
  have hr : r = r1 := by omega
  subst hr
  exact ⟨rfl, rfl, by omega⟩
theorem w_spotK (L : Nat) (b : Bool) (h : Hp) (hB : Bx h) (i r p : Int32) (pi : B i 0 24) (pr : B r 0 8) (pp : B p 0 200) : EvP mi_X10_spot [.ref 63, .int i, .int r, .int p] (G0 L b) h (fun x => B x 0 45224 ∧ x.toInt = 1809 * i.toInt + 201 * r.toInt + p.toInt) := by
  refine EvP.mono (w_X10_spot_63 L b h hB i pi r pr p pp) (fun x hx => ?_)
  exact ⟨hx.1, hx.2⟩
theorem w_thenK (L : Nat) (b : Bool) (h g : Hp) (hB : Bx g) (e2 : h 63 2 = g 63 2) (e3 : h 63 3 = g 63 3) (p d : Int32) : EvP mi_X10_then [.ref 63, .int p, .int d] (G0 L b) h (fun x => B x 0 200 ∧ x.toInt = th g p.toInt d ∧ x.toInt ≤ (g 63 3).toInt) := by
  refine (c_mthen L b h p d).p ?_
  rw [zth_congr e2 e3, th_eq]
  exact ⟨(zth_B (hB 63 3) p d).1, rfl, (zth_B (hB 63 3) p d).2⟩
theorem w_movedE (L : Nat) (b : Bool) (h : Hp) (x k : Int32) : EvP mi_X10_moved [.ref 63, .int x, .int k] (G0 L b) h (fun r => B r (-2147483648) 2147483647 ∧ r = z_mv2 x k) := (c_mmoved L b h x k).p ⟨B.any _, rfl⟩
/-! which parts of a chord are gone through -/
def EnN (all : Int32) : Nat → Int32 → Int32 → Prop
  | 0, x, y => y = x
  | n + 1, x, y => ¬ x = 0 ∧ EnN all n ((x - 1) &&& all) y
def EnF (all x y : Int32) : Prop := ∃ n, EnN all n x y
theorem EnF.refl (all x : Int32) : EnF all x x := ⟨0, rfl⟩
theorem EnF.step {all x y : Int32} (h : EnF all x y) : y = x ∨ (¬ x = 0 ∧ EnF all ((x - 1) &&& all) y) := by
  obtain ⟨n, h⟩ := h
  cases n with
  | zero => exact Or.inl h
  | succ n => exact Or.inr ⟨h.1, n, h.2⟩
theorem EnN.snoc {all : Int32} : ∀ {n : Nat} {a x : Int32}, EnN all n a x → ¬ x = 0 → EnN all (n + 1) a ((x - 1) &&& all)
  | 0, a, x, h, hx => by
    have h : x = a := h
    subst h
    exact ⟨hx, rfl⟩
  | n + 1, a, x, h, hx => ⟨h.1, EnN.snoc h.2 hx⟩
theorem EnF.snoc {all a x : Int32} (h : EnF all a x) (hx : ¬ x = 0) : EnF all a ((x - 1) &&& all) := by
  obtain ⟨n, h⟩ := h
  exact ⟨n + 1, h.snoc hx⟩
def met (m : Hp) (i r p : Int) : Prop := ¬ m 84 (sx i r p) = 0
theorem met.mono {m m' : Hp} {s : Nat} {i r p : Int} (h : met m i r p) (e : m' = ev_set m 84 s 1) : met m' i r p := by
  unfold met at h ⊢
  rw [e]
  unfold ev_set
  split
  · decide
  · exact h
theorem met.new {m m' : Hp} {x : Int32} {i r p : Int} (e : m' = ev_set m 84 x.toNatClampNeg 1) (hx : x.toInt = 1809 * i + 201 * r + p) : met m' i r p := by
  unfold met
  rw [e, sx_of hx, ev_rd1]
  decide
theorem met.old {m m' : Hp} {s : Nat} {i r p : Int} (h : met m' i r p) (e : m' = ev_set m 84 s 1) (hne : sx i r p ≠ s) : met m i r p := by
  unfold met at h ⊢
  rw [e, ev_rd3 hne] at h
  exact h
/-- the chord of beat i in the key -/
def chd (g : Hp) (t k : Int32) (i : Int) : Int32 := z_mv2 (g 74 (24 * t.toNatClampNeg + i.toNat)) k
def alp (g : Hp) (t k : Int32) (i p : Int) : Int32 := chd g t k i &&& g 81 p.toNat
def Cl (g m : Hp) (t k : Int32) (i r p : Int) : Prop := met m i r p → (0 < r → met m i (r - 1) (th g p (g 82 0))) ∧ ∀ x, EnF (alp g t k i p) (alp g t k i p) x → met m (i + 1) r (th g p (g 82 x.toNatClampNeg))
def GI (g m : Hp) (t k : Int32) (R i0 r0 p0 : Int) : Prop := met m 0 R (g 63 0).toInt ∧ ∀ i r p : Int, 0 ≤ i → i < (g 73 t.toNatClampNeg).toInt → 0 ≤ r → r ≤ R → 0 ≤ p → p ≤ (g 63 3).toInt → (i < i0 ∨ (i = i0 ∧ r0 < r) ∨ (i = i0 ∧ r = r0 ∧ p < p0)) → Cl g m t k i r p
theorem GI.to {g m : Hp} {t k : Int32} {R i0 r0 p0 i1 r1 p1 : Int} (h : GI g m t k R i0 r0 p0) (hw : ∀ i r p : Int, 0 ≤ i → i < (g 73 t.toNatClampNeg).toInt → 0 ≤ r → r ≤ R → 0 ≤ p → p ≤ (g 63 3).toInt → (i < i1 ∨ (i = i1 ∧ r1 < r) ∨ (i = i1 ∧ r = r1 ∧ p < p1)) → (i < i0 ∨ (i = i0 ∧ r0 < r) ∨ (i = i0 ∧ r = r0 ∧ p < p0))) : GI g m t k R i1 r1 p1 :=
  ⟨h.1, fun i r p a1 a2 a3 a4 a5 a6 a7 => h.2 i r p a1 a2 a3 a4 a5 a6 (hw i r p a1 a2 a3 a4 a5 a6 a7)⟩
theorem Cl.mono {g m m' : Hp} {t k : Int32} {s : Nat} {i r p : Int} (h : Cl g m t k i r p) (e : m' = ev_set m 84 s 1) (hne : sx i r p ≠ s) : Cl g m' t k i r p := fun hm => by
  obtain ⟨q1, q2⟩ := h (hm.old e hne)
  exact ⟨fun z => (q1 z).mono e, fun x hx => (q2 x hx).mono e⟩
theorem GI.write {g m m' : Hp} {t k x : Int32} {R i0 r0 p0 i1 r1 p1 : Int} (h : GI g m t k R i0 r0 p0) (e : m' = ev_set m 84 x.toNatClampNeg 1) (hx : x.toInt = 1809 * i1 + 201 * r1 + p1) (hR : R ≤ 8) (h3 : B (g 63 3) 0 200) (k0 : 0 ≤ i1) (k1 : 0 ≤ r1) (k2 : r1 ≤ 8) (k3 : 0 ≤ p1) (k4 : p1 ≤ 200) (hp : ¬ (i1 < i0 ∨ (i1 = i0 ∧ r0 < r1) ∨ (i1 = i0 ∧ r1 = r0 ∧ p1 < p0))) : GI g m' t k R i0 r0 p0 := by
  refine ⟨h.1.mono e, fun i r p a1 a2 a3 a4 a5 a6 a7 => ?_⟩
  have v2 := h3.2
  refine (h.2 i r p a1 a2 a3 a4 a5 a6 a7).mono e (fun q => hp ?_)
  rw [sx_of hx] at q
  obtain ⟨rfl, rfl, rfl⟩ := sx_inj a1 a3 (by omega) a5 (by omega) k0 k1 k2 k3 k4 q
  exact a7
theorem GI.keep {g m m' : Hp} {t k : Int32} {R i0 r0 p0 : Int} (h : GI g m t k R i0 r0 p0) (e : ∀ j, m' 84 j = m 84 j) : GI g m' t k R i0 r0 p0 := by
  have em : ∀ i r p, met m' i r p ↔ met m i r p := fun i r p => by unfold met; rw [e]
  refine ⟨(em _ _ _).mpr h.1, fun i r p a1 a2 a3 a4 a5 a6 a7 hm => ?_⟩
  obtain ⟨q1, q2⟩ := h.2 i r p a1 a2 a3 a4 a5 a6 a7 ((em _ _ _).mp hm)
  exact ⟨fun z => (em _ _ _).mpr (q1 z), fun x hx => (em _ _ _).mpr (q2 x hx)⟩
/-- the parts that are still to come, or are done -/
def EN (g m : Hp) (al x : Int32) (i r p : Int) : Prop := ∀ y, EnF al al y → EnF al x y ∨ met m (i + 1) r (th g p (g 82 y.toNatClampNeg))
def RS (g m : Hp) (i r p : Int) : Prop := 0 < r → met m i (r - 1) (th g p (g 82 0))
theorem EN.start (g m : Hp) (al : Int32) (i r p : Int) : EN g m al al i r p := fun _ hy => Or.inl hy
theorem EN.next {g m m' : Hp} {al x s : Int32} {i r p : Int} (h : EN g m al x i r p) (e : m' = ev_set m 84 s.toNatClampNeg 1) (hs : s.toInt = 1809 * (i + 1) + 201 * r + th g p (g 82 x.toNatClampNeg)) : EN g m' al ((x - 1) &&& al) i r p := fun y hy => by
  rcases h y hy with q | q
  · rcases q.step with rfl | ⟨_, q2⟩
    · exact Or.inr (met.new e hs)
    · exact Or.inl q2
  · exact Or.inr (q.mono e)
theorem EN.done {g m m' : Hp} {al s : Int32} {i r p : Int} (h : EN g m al 0 i r p) (e : m' = ev_set m 84 s.toNatClampNeg 1) (hs : s.toInt = 1809 * (i + 1) + 201 * r + th g p (g 82 (0 : Int32).toNatClampNeg)) : ∀ y, EnF al al y → met m' (i + 1) r (th g p (g 82 y.toNatClampNeg)) := fun y hy => by
  rcases h y hy with q | q
  · rcases q.step with rfl | ⟨q1, _⟩
    · exact met.new e hs
    · exact absurd rfl q1
  · exact q.mono e
theorem RS.mono {g m m' : Hp} {s : Nat} {i r p : Int} (h : RS g m i r p) (e : m' = ev_set m 84 s 1) : RS g m' i r p := fun z => (h z).mono e
theorem GI.add {g m : Hp} {t k : Int32} {R i0 r0 p0 : Int} (h : GI g m t k R i0 r0 p0) (hc : Cl g m t k i0 r0 p0) : GI g m t k R i0 r0 (p0 + 1) := by
  refine ⟨h.1, fun i r p a1 a2 a3 a4 a5 a6 a7 => ?_⟩
  by_cases q : i = i0 ∧ r = r0 ∧ p = p0
  · obtain ⟨rfl, rfl, rfl⟩ := q
    exact hc
  · exact h.2 i r p a1 a2 a3 a4 a5 a6 (by omega)
theorem GI.start {g m : Hp} {t k : Int32} {R : Int} (hm : met m 0 R (g 63 0).toInt) (hR : R ≤ 8) : GI g m t k R 0 9 0 := ⟨hm, fun i r p a1 _ _ a4 a5 _ a7 => by exfalso; omega⟩
theorem Cl.vac {g m : Hp} {t k x y : Int32} {i r p : Int} (e : m 84 x.toNatClampNeg = y) (h0 : y = 0) (hx : x.toInt = 1809 * i + 201 * r + p) : Cl g m t k i r p := fun hm => by
  unfold met at hm
  rw [← sx_of hx, e] at hm
  exact absurd h0 hm
theorem Cl.mk {g m : Hp} {t k al : Int32} {i r p : Int} (ea : al = alp g t k i p) (hr : RS g m i r p) (he : ∀ y, EnF al al y → met m (i + 1) r (th g p (g 82 y.toNatClampNeg))) : Cl g m t k i r p := fun _ => ⟨hr, fun x hx => he x (by rw [ea]; exact hx)⟩
theorem EN.last {g m m' : Hp} {al s x d : Int32} {i r p : Int} (h : EN g m al x i r p) (hx : x = 0) (e : m' = ev_set m 84 s.toNatClampNeg 1) (hd : d = g 82 x.toNatClampNeg) (hs : s.toInt = 1809 * (i + 1) + 201 * r + th g p d) : ∀ y, EnF al al y → met m' (i + 1) r (th g p (g 82 y.toNatClampNeg)) := by
  subst hx
  rw [hd] at hs
  exact h.done e hs
theorem EN.nx {g m m' : Hp} {al x s d y x1 : Int32} {i r p : Int} (h : EN g m al x i r p) (e : m' = ev_set m 84 s.toNatClampNeg 1) (hd : d = g 82 x.toNatClampNeg) (hs : s.toInt = 1809 * (i + 1) + 201 * r + th g p d) (ey : y = x1 &&& al) (ex : x1 = x - 1) : EN g m' al y i r p := by
  rw [ey, ex]
  rw [hd] at hs
  exact h.next e hs
theorem alp_of {g h1 h2 : Hp} {t k v9 c y x i p : Int32} (e9 : v9 = c &&& y) (ec : c = z_mv2 x k) (ex : x = h1 74 (24 * t.toNatClampNeg + i.toNatClampNeg)) (k74 : h1 74 (24 * t.toNatClampNeg + i.toNatClampNeg) = g 74 (24 * t.toNatClampNeg + i.toNatClampNeg)) (ey : h2 81 p.toNatClampNeg = y) (k81 : h2 81 p.toNatClampNeg = g 81 p.toNatClampNeg) : v9 = alp g t k i.toInt p.toInt := by
  unfold alp chd
  rw [e9, ec, ex, k74, ← ey, k81]
  rfl
/-! the best sound: what bestSound() answers -/
def bsv (g h : Hp) (i r : Int) (p x : Int32) : Int32 := 16 * g 83 x.toNatClampNeg + h 78 (sx (i + 1) r (th g p.toInt (g 82 x.toNatClampNeg)))
def bsl (g h : Hp) (i r : Int) (p al : Int32) : Nat → Int32 → Int32 → Int32
  | 0, _, b => b
  | n + 1, x, b => if x = 0 then (if bsv g h i r p x ≤ b then b else bsv g h i r p x) else bsl g h i r p al n ((x - 1) &&& al) (if bsv g h i r p x ≤ b then b else bsv g h i r p x)
theorem and_lt {x al : Int32} (px : B x 0 4095) (hx : ¬ x = 0) : 0 ≤ ((x - 1) &&& al).toInt ∧ ((x - 1) &&& al).toInt < x.toInt := by
  have p1 : B x 1 4095 := R_neL px (by decide : B 0 0 0) hx (by decide)
  have e := B.sub p1 (by decide : B 1 1 1) (by decide) (by decide)
  have e1 : (1 : Int32).toInt = 1 := by decide
  have q : B ((x - 1) &&& al) 0 (x.toInt - 1) := B.andL (⟨e.1.1, by rw [e.2, e1]; exact Int.le_refl _⟩ : B (x - 1) (1 - 1) (x.toInt - 1)) (by decide)
  exact ⟨q.1, by have := q.2; omega⟩
theorem bsl_ind {g h : Hp} {i r : Int} {p al : Int32} : ∀ (n n' : Nat) (x b : Int32), B x 0 4095 → x.toInt < (n : Int) → x.toInt < (n' : Int) → bsl g h i r p al n x b = bsl g h i r p al n' x b
  | 0, _, x, b, px, h1, _ => by have := px.1; omega
  | _, 0, x, b, px, _, h2 => by have := px.1; omega
  | n + 1, n' + 1, x, b, px, h1, h2 => by
    unfold bsl
    by_cases q : x = 0
    · rw [if_pos q, if_pos q]
    · rw [if_neg q, if_neg q]
      have z := and_lt (al := al) px q
      have := px.2
      exact bsl_ind n n' _ _ ⟨z.1, by omega⟩ (by omega) (by omega)
def BS (g h : Hp) (i r : Int) (p al : Int32) : Int32 := bsl g h i r p al 4097 al (-1000000)
theorem bsl_next {g h : Hp} {i r : Int} {p al x b V : Int32} (px : B x 0 4095) (e : bsl g h i r p al 4097 x b = V) (hx : ¬ x = 0) : bsl g h i r p al 4097 ((x - 1) &&& al) (if bsv g h i r p x ≤ b then b else bsv g h i r p x) = V := by
  have z := and_lt (al := al) px hx
  have := px.2
  rw [bsl_ind 4097 4096 _ _ ⟨z.1, by omega⟩ (by omega) (by omega), ← e]
  conv => rhs; unfold bsl
  rw [if_neg hx]
theorem bsl_last {g h : Hp} {i r : Int} {p al b V : Int32} (e : bsl g h i r p al 4097 0 b = V) : (if bsv g h i r p 0 ≤ b then b else bsv g h i r p 0) = V := by
  rw [← e]
  unfold bsl
  rw [if_pos rfl]
theorem bsl_congr {g h h' : Hp} {i r : Int} {p al : Int32} (e : ∀ q : Int, 0 ≤ q → q ≤ 200 → h' 78 (sx (i + 1) r q) = h 78 (sx (i + 1) r q)) (h3 : B (g 63 3) 0 200) : ∀ n x b, bsl g h' i r p al n x b = bsl g h i r p al n x b
  | 0, _, _ => rfl
  | n + 1, x, b => by
    have z : bsv g h' i r p x = bsv g h i r p x := by
      unfold bsv
      rw [e]
      · rw [th_eq]; exact (zth_B h3 _ _).1.1
      · rw [th_eq]; exact (zth_B h3 _ _).1.2
    unfold bsl
    rw [z, bsl_congr e h3 n]
theorem BS.congr {g h h' : Hp} {i r : Int} {p al : Int32} (e : ∀ q : Int, 0 ≤ q → q ≤ 200 → h' 78 (sx (i + 1) r q) = h 78 (sx (i + 1) r q)) (h3 : B (g 63 3) 0 200) : BS g h' i r p al = BS g h i r p al := bsl_congr e h3 _ _ _
theorem bsv_of {g h h' : Hp} {i r : Int} {p x m tv d th' idx mul v i1 r1 : Int32} (ev : v = mul + tv) (em : mul = 16 * m) (e83 : h' 83 x.toNatClampNeg = m) (k83 : h' 83 x.toNatClampNeg = g 83 x.toNatClampNeg) (e78 : h' 78 idx.toNatClampNeg = tv) (k78 : h' 78 idx.toNatClampNeg = h 78 idx.toNatClampNeg) (eidx : idx.toInt = 1809 * i1.toInt + 201 * r1.toInt + th'.toInt) (ei : i1.toInt = i + 1) (er : r1.toInt = r) (eth : th'.toInt = th g p.toInt d) (ed : h' 82 x.toNatClampNeg = d) (k82 : h' 82 x.toNatClampNeg = g 82 x.toNatClampNeg) : v = bsv g h i r p x := by
  have q : idx.toNatClampNeg = sx (i + 1) r (th g p.toInt (g 82 x.toNatClampNeg)) := sx_of (by rw [eidx, ei, er, eth, ← ed, k82])
  unfold bsv
  rw [ev, em, ← e83, k83, ← e78, k78, q]
theorem bs_next {g h : Hp} {i r : Int} {p al x b V v b' : Int32} (px : B x 0 4095) (e : bsl g h i r p al 4097 x b = V) (hx : ¬ x = 0) (ev : v = bsv g h i r p x) (eb : b' = if v ≤ b then b else v) {y x1 : Int32} (ey : y = x1 &&& al) (ex : x1 = x - 1) : bsl g h i r p al 4097 y b' = V := by
  have z := bsl_next px e hx
  rw [ey, ex, eb, ev]
  exact z
theorem bs_last {g h : Hp} {i r : Int} {p al x b V v b' : Int32} (e : bsl g h i r p al 4097 x b = V) (hx : x = 0) (ev : v = bsv g h i r p x) (eb : b' = if v ≤ b then b else v) : b' = V := by
  subst hx
  rw [eb, ev]
  exact bsl_last e
theorem bs_dec {x al x1 y : Int32} {n : Nat} (px : B x 0 4095) (hx : ¬ x = 0) (ey : y = x1 &&& al) (ex : x1 = x - 1) (hm : x.toInt + 1 ≤ ((n + 1 : Nat) : Int)) : y.toInt + 1 ≤ (n : Int) := by
  have z := and_lt (al := al) px hx
  rw [ey, ex]
  omega
theorem EnF.sn2 {al a x x1 y : Int32} (h : EnF al a x) (hx : ¬ x = 0) (ey : y = x1 &&& al) (ex : x1 = x - 1) : EnF al a y := by
  rw [ey, ex]
  exact h.snoc hx
theorem BS.base {g g' h : Hp} {i r : Int} {p al : Int32} (e83 : ∀ j, g' 83 j = g 83 j) (e82 : ∀ j, g' 82 j = g 82 j) (e2 : g' 63 2 = g 63 2) (e3 : g' 63 3 = g 63 3) : ∀ n x b, bsl g' h i r p al n x b = bsl g h i r p al n x b
  | 0, _, _ => rfl
  | n + 1, x, b => by
    have z : bsv g' h i r p x = bsv g h i r p x := by
      unfold bsv th
      rw [e83, e82, zth_congr e2 e3]
    unfold bsl
    rw [z, BS.base e83 e82 e2 e3 n]
section EVS
variable {mi : MI} {pc nx tg : Nat} {lo : List (Option Value)} {st : List Value} {G : Geo} {h : Hp} {kc ks : Nat} {Q : Pst}
theorem ev_ishlL {y v : Int32} (e : 1 <<< (y &&& 31) = v) (hd : ev_at mi pc = some (.ishl, nx, tg)) (hn : nx = pc + 1) (k : EvQ mi nx lo (.int v :: st) G h kc ks Q) : EvQ mi pc lo (.int y :: .int 1 :: st) G h kc ks Q := ev_ishl hd hn (by rw [e]; exact k)
end EVS
/-! the table's boxes -/
theorem tb_get {x v : Int32} (h : B v (bx 78 x.toNatClampNeg).1 (bx 78 x.toNatClampNeg).2) (hx : 0 ≤ x.toInt ∧ x.toInt < 45225) : 0 ≤ v.toInt ∧ v.toInt ≤ 192 * (24 - x.toInt / 1809) := by
  have h1 : 0 ≤ v.toInt := h.1
  have h2 : v.toInt ≤ 192 * ((24 - x.toInt.toNat / 1809 : Nat) : Int) := h.2
  exact ⟨h1, by omega⟩
theorem tb_put {x v : Int32} (h1 : 0 ≤ v.toInt) (hx : 0 ≤ x.toInt ∧ x.toInt < 45225) (h2 : v.toInt ≤ 192 * (24 - x.toInt / 1809)) : B v (bx 78 x.toNatClampNeg).1 (bx 78 x.toNatClampNeg).2 := by
  show B v 0 (192 * ((24 - x.toInt.toNat / 1809 : Nat) : Int))
  exact ⟨h1, by omega⟩
theorem bm_12 (k : Nat) : bm k ≤ 12 := by
  unfold bm
  repeat' split
  all_goals decide
theorem mb_get {x v : Int32} (h : B v (bx 83 x.toNatClampNeg).1 (bx 83 x.toNatClampNeg).2) : B v 0 12 := ⟨h.1, Int.le_trans h.2 (bm_12 _)⟩
theorem pw_lt {k w n : Nat} (h1 : 2 ^ w ≤ k) (h2 : k < 2 ^ n) : w + 1 ≤ n := by
  rcases Nat.lt_or_ge w n with q | q
  · exact q
  · have := Nat.pow_le_pow_right (n := 2) (by decide) q; omega
theorem bm_lo {k w : Nat} (hw : w ≤ 11) (hk : k < 2 ^ w) : bm k ≤ (w : Int) := by
  unfold bm
  split
  · omega
  · split
    · have := pw_lt (w := 0) (by omega) hk; omega
    · split
      · have := pw_lt (w := 1) (by omega) hk; omega
      · split
        · have := pw_lt (w := 2) (by omega) hk; omega
        · split
          · have := pw_lt (w := 3) (by omega) hk; omega
          · split
            · have := pw_lt (w := 4) (by omega) hk; omega
            · split
              · have := pw_lt (w := 5) (by omega) hk; omega
              · split
                · have := pw_lt (w := 6) (by omega) hk; omega
                · split
                  · have := pw_lt (w := 7) (by omega) hk; omega
                  · split
                    · have := pw_lt (w := 8) (by omega) hk; omega
                    · split
                      · have := pw_lt (w := 9) (by omega) hk; omega
                      · split
                        · have := pw_lt (w := 10) (by omega) hk; omega
                        · have := pw_lt (w := 11) (by omega) hk; omega
theorem bm_hi {k w : Nat} (hw : w ≤ 11) (hk : 2 ^ w ≤ k) : (w : Int) + 1 ≤ bm k := by
  unfold bm
  split
  · have := pw_lt (n := 0) hk (by omega); omega
  · split
    · have := pw_lt (n := 1) hk (by omega); omega
    · split
      · have := pw_lt (n := 2) hk (by omega); omega
      · split
        · have := pw_lt (n := 3) hk (by omega); omega
        · split
          · have := pw_lt (n := 4) hk (by omega); omega
          · split
            · have := pw_lt (n := 5) hk (by omega); omega
            · split
              · have := pw_lt (n := 6) hk (by omega); omega
              · split
                · have := pw_lt (n := 7) hk (by omega); omega
                · split
                  · have := pw_lt (n := 8) hk (by omega); omega
                  · split
                    · have := pw_lt (n := 9) hk (by omega); omega
                    · split
                      · have := pw_lt (n := 10) hk (by omega); omega
                      · split
                        · have := pw_lt (n := 11) hk (by omega); omega
                        · omega
theorem or_ge {x y : Int32} {a b c d : Int} (hx : B x a b) (hy : B y c d) (h1 : 0 ≤ a) (h2 : 0 ≤ c) : y.toInt ≤ (x ||| y).toInt := by
  have e := w_nat y (Int.le_trans h2 hy.1)
  have e1 := w_nat x (Int.le_trans h1 hx.1)
  have h3 : y.toBitVec.toNat ≤ (x ||| y).toBitVec.toNat := by
    rw [Int32.toBitVec_or, BitVec.toNat_or]
    exact Nat.right_le_or
  have h5 := Int32.toInt_lt y
  have h6 := Int32.toInt_lt x
  have h4 : (x ||| y).toBitVec.toNat < 2 ^ 31 := by
    rw [Int32.toBitVec_or, BitVec.toNat_or]
    exact Nat.or_lt_two_pow (by omega) (by omega)
  have e2 := w_of_nat (x ||| y) (by omega)
  omega
theorem mb_put {m x v v' : Int32} {w : Nat} {c : Int32} (hw : w ≤ 11) (hc : c.toInt = 2 ^ w) (pm : B m 0 2047) (hm : m.toInt < c.toInt) (hx : x = m ||| c) (hv : B v (bx 83 m.toNatClampNeg).1 (bx 83 m.toNatClampNeg).2) (e : v'.toInt = v.toInt + 1) : B v' (bx 83 x.toNatClampNeg).1 (bx 83 x.toNatClampNeg).2 := by
  have h1 : 0 ≤ v.toInt := hv.1
  have h2 : v.toInt ≤ bm m.toInt.toNat := hv.2
  have pm1 := pm.1
  have h3 : bm m.toInt.toNat ≤ (w : Int) := bm_lo hw (by
    have : ((m.toInt.toNat : Nat) : Int) < ((2 ^ w : Nat) : Int) := by rw [Int.toNat_of_nonneg pm1]; push_cast; omega
    exact_mod_cast this)
  have c0 : (0 : Int) < 2 ^ w := by omega
  have h4 := or_ge pm (⟨Int.le_of_lt (by omega), Int.le_refl _⟩ : B c 0 c.toInt) (by decide) (by decide)
  have h5 : (w : Int) + 1 ≤ bm x.toInt.toNat := bm_hi hw (by
    have : ((2 ^ w : Nat) : Int) ≤ ((x.toInt.toNat : Nat) : Int) := by rw [hx, Int.toNat_of_nonneg (by omega)]; push_cast; omega
    exact_mod_cast this)
  show B v' 0 (bm x.toInt.toNat)
  exact ⟨by omega, by omega⟩

