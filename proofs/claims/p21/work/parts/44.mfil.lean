/-- what fills() writes behind meets() -/
def wf : List (Nat × Nat) := [(63, 35), (63, 36), (63, 37), (78, 999), (79, 999), (80, 999)]
def FR (g h : Hp) : Prop := ∀ a k, wm wf a k = false → h a k = g a k
theorem FR.refl (g : Hp) : FR g g := fun _ _ _ => rfl
theorem FR.set {g h h1 : Hp} {a i : Nat} {x : Int32} (f : FR g h) (e : h1 = ev_set h a i x) (hw : wm wf a i = true) : FR g h1 := fun p q hq => by
  rw [e]
  unfold ev_set
  split
  · rename_i z
    rw [z.1, z.2, hw] at hq
    cases hq
  · exact f p q hq
theorem FR.call {W : List (Nat × Nat)} {g h h1 : Hp} (f : FR g h) (k : JW W h h1) (hs : wsub W wf = true) : FR g h1 := fun p q hq => (k.2 p q (wsub_wm hs hq)).trans (f p q hq)
theorem GI.base {g g' m : Hp} {t k : Int32} {R : Int} (h : GI g m t k R (g 73 t.toNatClampNeg).toInt 9 0) (e0 : g' 63 0 = g 63 0) (e2 : g' 63 2 = g 63 2) (e3 : g' 63 3 = g 63 3) (e73 : ∀ j, g' 73 j = g 73 j) (e74 : ∀ j, g' 74 j = g 74 j) (e81 : ∀ j, g' 81 j = g 81 j) (e82 : ∀ j, g' 82 j = g 82 j) : GI g' m t k R (g' 73 t.toNatClampNeg).toInt 9 0 := by
  have et : ∀ p d, th g' p d = th g p d := fun p d => by unfold th; rw [zth_congr e2 e3]
  have ea : ∀ i p, alp g' t k i p = alp g t k i p := fun i p => by unfold alp chd; rw [e74, e81]
  refine ⟨by rw [e0]; exact h.1, fun i r p a1 a2 a3 a4 a5 a6 a7 hm => ?_⟩
  rw [e73] at a2
  rw [e3] at a6
  obtain ⟨q1, q2⟩ := h.2 i r p a1 a2 a3 a4 a5 a6 (by rw [e73] at a7; exact a7) hm
  refine ⟨fun z => ?_, fun x hx => ?_⟩
  · rw [et, e82]; exact q1 z
  · rw [ea] at hx
    rw [et, e82]
    exact q2 x hx
/-- the table's rows that are filled, at rest 0 -/
def TB (g h : Hp) (t k : Int32) (i0 r0 p0 : Int) : Prop := ∀ i p : Int, 0 ≤ i → i < (g 73 t.toNatClampNeg).toInt → 0 ≤ p → p ≤ (g 63 3).toInt → (i0 < i ∨ (i = i0 ∧ (0 < r0 ∨ p < p0))) → met g i 0 p → h 78 (sx i 0 p) = BS g h i 0 (Int32.ofInt p) (alp g t k i p)
theorem TB.start {g h : Hp} {t k : Int32} {i0 : Int} (hN : (g 73 t.toNatClampNeg).toInt ≤ i0 + 1) : TB g h t k i0 0 0 := fun i p a1 a2 a3 a4 a5 a6 => by exfalso; omega
theorem TB.to {g h : Hp} {t k : Int32} {i0 r0 p0 i1 r1 p1 : Int} (f : TB g h t k i0 r0 p0) (hw : ∀ i p : Int, 0 ≤ i → i < (g 73 t.toNatClampNeg).toInt → 0 ≤ p → p ≤ (g 63 3).toInt → (i1 < i ∨ (i = i1 ∧ (0 < r1 ∨ p < p1))) → (i0 < i ∨ (i = i0 ∧ (0 < r0 ∨ p < p0)))) : TB g h t k i1 r1 p1 := fun i p a1 a2 a3 a4 a5 a6 => f i p a1 a2 a3 a4 (hw i p a1 a2 a3 a4 a5) a6
theorem TB.oth {g h h1 : Hp} {t k : Int32} {i0 r0 p0 : Int} (f : TB g h t k i0 r0 p0) (h3 : B (g 63 3) 0 200) (e : ∀ j, h1 78 j = h 78 j) : TB g h1 t k i0 r0 p0 := fun i p a1 a2 a3 a4 a5 a6 => by
  rw [e, BS.congr (fun q _ _ => e _) h3]
  exact f i p a1 a2 a3 a4 a5 a6
theorem TB.set {g h h1 : Hp} {t k x : Int32} {a j : Nat} {i0 r0 p0 : Int} (f : TB g h t k i0 r0 p0) (h3 : B (g 63 3) 0 200) (e : h1 = ev_set h a j x) (hne : Nat.beq 78 a = false) : TB g h1 t k i0 r0 p0 := f.oth h3 (fun q => rd_a e rfl hne)
theorem TB.call {W : List (Nat × Nat)} {g h h1 : Hp} {t k : Int32} {i0 r0 p0 : Int} (f : TB g h t k i0 r0 p0) (h3 : B (g 63 3) 0 200) (e : JW W h h1) (hw : ∀ j, wm W 78 j = false) : TB g h1 t k i0 r0 p0 := f.oth h3 (fun q => e.2 78 q (hw q))
theorem TB.write {g h h1 : Hp} {t k x v : Int32} {i0 r0 p0 : Int} (f : TB g h t k i0 r0 p0) (e : h1 = ev_set h 78 x.toNatClampNeg v) (hx : x.toInt = 1809 * i0 + 201 * r0 + p0) (h3 : B (g 63 3) 0 200) (k0 : 0 ≤ i0) (k1 : 0 ≤ r0) (k2 : r0 ≤ 8) (k3 : 0 ≤ p0) (k4 : p0 ≤ 200) : TB g h1 t k i0 r0 p0 := fun i p a1 a2 a3 a4 a5 a6 => by
  have v2 := h3.2
  have e1 : h1 78 (sx i 0 p) = h 78 (sx i 0 p) := by
    rw [e, sx_of hx]
    refine ev_rd3 (fun q => ?_)
    have := sx_inj a1 (by decide) (by decide) a3 (by omega) k0 k1 k2 k3 k4 q
    omega
  rw [e1, BS.congr (fun q q1 q2 => ?_) h3]
  · exact f i p a1 a2 a3 a4 a5 a6
  · rw [e, sx_of hx]
    refine ev_rd3 (fun z => ?_)
    have := sx_inj (by omega) (by decide) (by decide) q1 q2 k0 k1 k2 k3 k4 z
    omega
theorem TB.add {g h : Hp} {t k : Int32} {i0 r0 p0 : Int} (f : TB g h t k i0 r0 p0) (hc : r0 = 0 → met g i0 0 p0 → h 78 (sx i0 0 p0) = BS g h i0 0 (Int32.ofInt p0) (alp g t k i0 p0)) (hr : 0 ≤ r0) : TB g h t k i0 r0 (p0 + 1) := fun i p a1 a2 a3 a4 a5 a6 => by
  by_cases q : i = i0 ∧ p = p0 ∧ r0 = 0
  · obtain ⟨rfl, rfl, q⟩ := q
    exact hc q a6
  · exact f i p a1 a2 a3 a4 (by omega) a6
theorem chd_of {g h1 : Hp} {t k c x i : Int32} (ec : c = z_mv2 x k) (ex : x = h1 74 (24 * t.toNatClampNeg + i.toNatClampNeg)) (k74 : h1 74 (24 * t.toNatClampNeg + i.toNatClampNeg) = g 74 (24 * t.toNatClampNeg + i.toNatClampNeg)) : c = chd g t k i.toInt := by
  unfold chd
  rw [ec, ex, k74]
  rfl
/-- bestSound()'s answer, told of the heap behind meets() -/
theorem bs_at {g h : Hp} {t k c x p : Int32} {i r : Int} (f : FR g h) (e : x = BS h h i r p (c &&& h 81 p.toNatClampNeg)) (ec : c = chd g t k i) : x = BS g h i r p (alp g t k i p.toInt) := by
  have ea : c &&& h 81 p.toNatClampNeg = alp g t k i p.toInt := by
    unfold alp
    rw [ec, f 81 _ rfl]
    rfl
  rw [e, ea]
  exact BS.base (fun j => f 83 j rfl) (fun j => f 82 j rfl) (f 63 2 rfl) (f 63 3 rfl) _ _ _
theorem TB.vac {g h : Hp} {t k x y : Int32} {i0 r0 p0 : Int} (f : FR g h) (e : h 84 x.toNatClampNeg = y) (h0 : y = 0) (hx : x.toInt = 1809 * i0 + 201 * r0 + p0) : r0 = 0 → met g i0 0 p0 → h 78 (sx i0 0 p0) = BS g h i0 0 (Int32.ofInt p0) (alp g t k i0 p0) := fun q hm => by
  subst q
  exfalso
  unfold met at hm
  rw [← f 84 _ rfl, ← sx_of hx, e] at hm
  exact hm h0
theorem TB.new {W : List (Nat × Nat)} {g h h1 h2 : Hp} {t k c x v p idx : Int32} {i r : Int} (f : FR g h) (h3 : B (g 63 3) 0 200) (e : x = BS h h i r p (c &&& h 81 p.toNatClampNeg)) (ec : c = chd g t k i) (kJ : JW W h h1) (k78 : ∀ j, wm W 78 j = false) (e2 : h2 = ev_set h1 78 idx.toNatClampNeg v) (hv : r = 0 → v = x) (hx : idx.toInt = 1809 * i + 201 * r + p.toInt) (k0 : 0 ≤ i) (k1 : 0 ≤ r) (k2 : r ≤ 8) (pp : B p 0 200) : r = 0 → met g i 0 p.toInt → h2 78 (sx i 0 p.toInt) = BS g h2 i 0 (Int32.ofInt p.toInt) (alp g t k i p.toInt) := fun q _ => by
  have q1 := bs_at f e ec
  have v3 := hv q
  subst q
  rw [Int32.ofInt_toInt, e2, ← sx_of hx, ev_rd1, v3, q1]
  refine (BS.congr (fun z z1 z2 => ?_) h3).symm
  rw [sx_of hx]
  have p1 := pp.1
  have p2 := pp.2
  rw [ev_rd3 (fun y => ?_)]
  · exact kJ.2 78 _ (k78 _)
  · have := sx_inj (by omega) (by decide) (by decide) z1 z2 k0 k1 k2 p1 p2 y
    omega
/-- at no rest left the table has what bestSound() answers -/
theorem fol_eq {W : List (Nat × Nat)} {g h h1 : Hp} {t k c x tv p idx : Int32} {i r : Int} (f : FR g h) (e : x = BS h h i r p (c &&& h 81 p.toNatClampNeg)) (ec : c = chd g t k i) (kJ : JW W h h1) (k78 : ∀ j, wm W 78 j = false) (hT : TB g h t k (-1) 1 0) (hm : met g i r p.toInt) (k0 : 0 ≤ i) (kn : i < (g 73 t.toNatClampNeg).toInt) (k3 : 0 ≤ p.toInt) (k4 : p.toInt ≤ (g 63 3).toInt) (et : h1 78 idx.toNatClampNeg = tv) (hx : idx.toInt = 1809 * i + 201 * r + p.toInt) (hr : r = 0) : x = tv := by
  subst hr
  have q1 := bs_at f e ec
  have q2 := hT i p.toInt k0 kn k3 k4 (by omega) hm
  rw [Int32.ofInt_toInt] at q2
  rw [q1, ← q2, ← et, kJ.2 78 _ (k78 _), sx_of hx]
theorem fol_rest {g : Hp} {t k d p p' : Int32} {R i r : Int} (hG : GI g g t k R (g 73 t.toNatClampNeg).toInt 9 0) (hm : met g i r p.toInt) (k0 : 0 ≤ i) (kn : i < (g 73 t.toNatClampNeg).toInt) (k1 : 0 < r) (k2 : r ≤ R) (k3 : 0 ≤ p.toInt) (k4 : p.toInt ≤ (g 63 3).toInt) (ed : d = g 82 0) (ep : p'.toInt = th g p.toInt d) : met g i (r - 1) p'.toInt := by
  rw [ep, ed]
  exact (hG.2 i r p.toInt k0 kn (by omega) k2 k3 k4 (Or.inl kn) hm).1 k1
theorem fol_sound {g h : Hp} {t k c d x p p' : Int32} {R i r : Int} (f : FR g h) (ec : c = chd g t k i) (hE : EnF (c &&& h 81 p.toNatClampNeg) (c &&& h 81 p.toNatClampNeg) x) (hG : GI g g t k R (g 73 t.toNatClampNeg).toInt 9 0) (hm : met g i r p.toInt) (k0 : 0 ≤ i) (kn : i < (g 73 t.toNatClampNeg).toInt) (k1 : 0 ≤ r) (k2 : r ≤ R) (k3 : 0 ≤ p.toInt) (k4 : p.toInt ≤ (g 63 3).toInt) (ed : d = g 82 x.toNatClampNeg) (ep : p'.toInt = th g p.toInt d) : met g (i + 1) r p'.toInt := by
  have ea : c &&& h 81 p.toNatClampNeg = alp g t k i p.toInt := by
    unfold alp
    rw [ec, f 81 _ rfl]
    rfl
  rw [ea] at hE
  rw [ep, ed]
  exact (hG.2 i r p.toInt k0 kn k1 k2 k3 k4 (Or.inl kn) hm).2 x hE
theorem met.eq {g : Hp} {i r p i' r' p' : Int} (h : met g i r p) (e1 : i' = i) (e2 : r' = r) (e3 : p' = p) : met g i' r' p' := by
  rw [e1, e2, e3]
  exact h

