theorem w_inV (G : Geo) (h : Hp) (v : Int32) (a : Int64) (y : Int32) {l l' u u' : Int} (ha : BL a l l') (hb : B y u' u) : EvP mi_X10_in [.long v.toInt64, .long a, .long y.toInt64] G h (fun r => B r 0 1 ∧ (¬ r = 0 → B v l u) ∧ (¬ r.toInt = 0 → v.toInt ≤ y.toInt)) := (c_in G h v.toInt64 a y.toInt64).p (by
  have e1 : ¬ z_in v.toInt64 a y.toInt64 = 0 → B v l u ∧ v.toInt ≤ y.toInt := fun e => by
    have := z_in_le e
    rw [Int32.toInt_toInt64, Int32.toInt_toInt64] at this
    have := ha.1
    have := hb.2
    exact ⟨⟨by omega, by omega⟩, by omega⟩
  have e0 : (0 : Int32).toInt = 0 := by decide
  exact ⟨z_in_01 _ _ _, fun q => (e1 q).1, fun q => (e1 (fun z => q (by rw [z]; exact e0))).2⟩)
def KSr (m : Hp) (a : Nat) : Prop := (m 71 (42 * a)).toInt ≤ (m 71 (42 * a + 3)).toInt
/-- what undo() gives back: no steam above its valve -/
def KS (m : Hp) : Prop := ∀ a : Nat, a < 10 → KSr m a
theorem KS.set {m m1 : Hp} {a i : Nat} {x : Int32} (h : KS m) (e : m1 = ev_set m a i x) (hne : Nat.beq a 71 = false) : KS m1 := fun r hr => by
  have q : (71 : Nat) ≠ a := fun z => by rw [← z] at hne; cases hne
  unfold KSr
  rw [e, ev_rd2 q, ev_rd2 q]
  exact h r hr
theorem KS.call {W : List (Nat × Nat)} {m m1 : Hp} (h : KS m) (hJ : JW W m m1) (hw : ∀ j, wm W 71 j = false) : KS m1 := fun r hr => by
  unfold KSr
  rw [hJ.2 71 _ (hw _), hJ.2 71 _ (hw _)]
  exact h r hr
theorem KS.two {h h1 h2 : Hp} {x y s v n : Int32} (hK : KS h) (hn : 0 ≤ n.toInt) (hn2 : n.toInt < 10) (hx : x.toInt = 42 * n.toInt) (hy : y.toInt = 42 * n.toInt + 3) (e1 : h1 71 x.toNatClampNeg = s) (k1 : h1 71 x.toNatClampNeg = h 71 x.toNatClampNeg) (e2 : h2 71 y.toNatClampNeg = v) (k2 : h2 71 y.toNatClampNeg = h 71 y.toNatClampNeg) : s.toInt ≤ v.toInt := by
  have q := hK n.toInt.toNat (by omega)
  unfold KSr at q
  have ex : x.toNatClampNeg = 42 * n.toInt.toNat := by show x.toInt.toNat = _; omega
  have ey : y.toNatClampNeg = 42 * n.toInt.toNat + 3 := by show y.toInt.toNat = _; omega
  rw [← e1, k1, ← e2, k2, ex, ey]
  exact q
theorem rd_x {m m1 : Hp} {x y : Int32} {j : Nat} (e : m1 = ev_set m 71 x.toNatClampNeg y) (hne : j ≠ x.toInt.toNat) : m1 71 j = m 71 j := by
  rw [e]
  exact ev_rd3 hne
theorem rd_y {m m1 : Hp} {x y : Int32} {j : Nat} (e : m1 = ev_set m 71 x.toNatClampNeg y) (hj : j = x.toInt.toNat) : m1 71 j = y := by
  rw [e, hj]
  exact ev_rd1 _ _ _ _
/-- the row n is new: steam s, valve v; the others are as they should be -/
def KP (m : Hp) (n : Int) (s v : Int32) : Prop := (∀ a : Nat, a < 10 → (a : Int) ≠ n → KSr m a) ∧ m 71 (42 * n).toNat = s ∧ m 71 (42 * n + 3).toNat = v
theorem KP.mk {m m0 m1 m2 m3 m4 m5 : Hp} {x0 x1 x2 x3 x4 x5 s w f v b q : Int32} {n : Int} (h : KS m) (hn : 0 ≤ n) (e0 : m0 = ev_set m 71 x0.toNatClampNeg s) (e1 : m1 = ev_set m0 71 x1.toNatClampNeg w) (e2 : m2 = ev_set m1 71 x2.toNatClampNeg f) (e3 : m3 = ev_set m2 71 x3.toNatClampNeg v) (e4 : m4 = ev_set m3 71 x4.toNatClampNeg b) (e5 : m5 = ev_set m4 71 x5.toNatClampNeg q)
    (h0 : x0.toInt = 42 * n) (h1 : x1.toInt = 42 * n + 1) (h2 : x2.toInt = 42 * n + 2) (h3 : x3.toInt = 42 * n + 3) (h4 : x4.toInt = 42 * n + 4) (h5 : x5.toInt = 42 * n + 5) : KP m5 n s v := by
  refine ⟨fun a ha hne => ?_, ?_, ?_⟩
  · unfold KSr
    rw [rd_x e5 (by omega), rd_x e4 (by omega), rd_x e3 (by omega), rd_x e2 (by omega), rd_x e1 (by omega), rd_x e0 (by omega), rd_x e5 (by omega), rd_x e4 (by omega), rd_x e3 (by omega), rd_x e2 (by omega), rd_x e1 (by omega), rd_x e0 (by omega)]
    exact h a ha
  · rw [rd_x e5 (by omega), rd_x e4 (by omega), rd_x e3 (by omega), rd_x e2 (by omega), rd_x e1 (by omega), rd_y e0 (by omega)]
  · rw [rd_x e5 (by omega), rd_x e4 (by omega), rd_y e3 (by omega)]
theorem KP.set {m m1 : Hp} {x y s v : Int32} {n : Int} (h : KP m n s v) (hn : 0 ≤ n) (e : m1 = ev_set m 71 x.toNatClampNeg y) (h1 : 42 * n + 6 ≤ x.toInt) (h2 : x.toInt < 42 * n + 42) : KP m1 n s v := by
  refine ⟨fun a ha hne => ?_, ?_, ?_⟩
  · unfold KSr
    rw [rd_x e (by omega), rd_x e (by omega)]
    exact h.1 a ha hne
  · rw [rd_x e (by omega)]; exact h.2.1
  · rw [rd_x e (by omega)]; exact h.2.2
theorem KP.fin {m m1 : Hp} {a i : Nat} {x s v : Int32} {n : Int} (h : KP m n s v) (hn : 0 ≤ n) (hs : s.toInt ≤ v.toInt) (e : m1 = ev_set m a i x) (hne : Nat.beq a 71 = false) : KS m1 := by
  refine KS.set (fun r hr => ?_) e hne
  by_cases q : (r : Int) = n
  · unfold KSr
    have e1 := h.2.1
    have e2 := h.2.2
    rw [show (42 * n).toNat = 42 * r by omega] at e1
    rw [show (42 * n + 3).toNat = 42 * r + 3 by omega] at e2
    rw [e1, e2]
    exact hs
  · exact h.1 r hr q
/-- the rows go down by one -/
def SH (g m : Hp) (i : Int) : Prop := (∀ j : Nat, (j : Int) + 42 < i → m 71 j = g 71 (j + 42)) ∧ ∀ j : Nat, i ≤ (j : Int) + 42 → m 71 j = g 71 j
theorem SH.start (g : Hp) : SH g g 42 := ⟨fun j hj => by omega, fun j _ => rfl⟩
theorem SH.step {g m m1 : Hp} {i x y i' : Int32} (h : SH g m i.toInt) (hi : 42 ≤ i.toInt) (hx : x.toInt = i.toInt - 42) (ey : m 71 i.toNatClampNeg = y) (e : m1 = ev_set m 71 x.toNatClampNeg y) (ei : i'.toInt = i.toInt + 1) : SH g m1 i'.toInt := by
  have en : i.toNatClampNeg = i.toInt.toNat := rfl
  refine ⟨fun j hj => ?_, fun j hj => ?_⟩
  · by_cases q : j = x.toInt.toNat
    · rw [rd_y e q, ← ey, h.2 _ (by omega), en]
      congr 1
      omega
    · rw [rd_x e q]
      exact h.1 j (by omega)
  · rw [rd_x e (by omega)]
    exact h.2 j (by omega)
theorem SH.ks {g m : Hp} {i : Int} (h : SH g m i) (hi : 420 ≤ i) (h2 : i ≤ 420) (hk : KS g) : KS m := fun a ha => by
  unfold KSr
  by_cases q : a = 9
  · subst q
    rw [h.2 _ (by omega), h.2 _ (by omega)]
    exact hk 9 (by decide)
  · rw [h.1 _ (by omega), h.1 _ (by omega)]
    have := hk (a + 1) (by omega)
    unfold KSr at this
    rw [show 42 * (a + 1) = 42 * a + 42 by omega, show 42 * a + 42 + 3 = 42 * a + 3 + 42 by omega] at this
    exact this

