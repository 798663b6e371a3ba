def QL : Pst := fun v _ _ => v = some (.int 1)
def Rel (h : Hp) : Prop := RWh h
def INV (h : Hp) : Prop := Bx h ∧ (h 63 0).toInt ≤ (h 63 3).toInt ∧ KS h ∧ Rel h
theorem RSh.call {W : List (Nat × Nat)} {h h1 : Hp} (hR : RSh h) (hJ : JW W h h1) (w0 : ∀ j, wm W 57 j = false) (w1 : ∀ j, wm W 58 j = false) (w2 : ∀ j, wm W 59 j = false) (w3 : ∀ j, wm W 60 j = false) (w4 : ∀ j, wm W 61 j = false) (w5 : ∀ j, wm W 62 j = false) (w6 : ∀ j, wm W 92 j = false) (w7 : ∀ j, wm W 93 j = false) (w8 : ∀ j, wm W 94 j = false) : RSh h1 := fun k hk => by
  obtain ⟨a1, a2, a3⟩ := hR k hk
  have e4 := hJ.2 61 k (w4 k)
  have e5 := hJ.2 62 k (w5 k)
  have e6 := hJ.2 92 k (w6 k)
  have e7 := hJ.2 93 k (w7 k)
  refine ⟨by rw [e5, e6]; exact a1, by rw [e4, e5, e6, e7]; exact a2, fun i hi => ?_⟩
  rw [hJ.2 94 _ (w8 _), ← a3 i hi]
  rcases (show k = 0 ∨ k = 1 ∨ k = 2 ∨ k = 3 by omega) with rfl | rfl | rfl | rfl
  · exact hJ.2 57 i (w0 i)
  · exact hJ.2 58 i (w1 i)
  · exact hJ.2 59 i (w2 i)
  · exact hJ.2 60 i (w3 i)
theorem Rel.call {W : List (Nat × Nat)} {h h1 : Hp} (hR : Rel h) (hJ : JW W h h1) (w0 : ∀ j, wm W 57 j = false) (w1 : ∀ j, wm W 58 j = false) (w2 : ∀ j, wm W 59 j = false) (w3 : ∀ j, wm W 60 j = false) (w4 : ∀ j, wm W 61 j = false) (w5 : ∀ j, wm W 62 j = false) (w6 : ∀ j, wm W 92 j = false) (w7 : ∀ j, wm W 93 j = false) (w8 : ∀ j, wm W 94 j = false) (w9 : wm W 4 7 = false) (w10 : wm W 63 5 = false) : Rel h1 := ⟨RSh.call hR.1 hJ w0 w1 w2 w3 w4 w5 w6 w7 w8, by rw [hJ.2 4 7 w9, hJ.2 63 5 w10]; exact hR.2⟩
theorem sv_call {W : List (Nat × Nat)} {h h1 : Hp} (hs : (h 63 0).toInt ≤ (h 63 3).toInt) (hJ : JW W h h1) (w0 : wm W 63 0 = false) (w3 : wm W 63 3 = false) : (h1 63 0).toInt ≤ (h1 63 3).toInt := by
  rw [hJ.2 63 0 w0, hJ.2 63 3 w3]
  exact hs
/-- the setting has no table yet -/
def FT (h : Hp) : Prop := (∀ j, h 95 j = 0) ∧ h 37 15 = 0
def SM (h1 h : Hp) : Prop := (∀ j, h1 95 j = h 95 j) ∧ h1 37 15 = h 37 15
theorem SM.refl (h : Hp) : SM h h := ⟨fun _ => rfl, rfl⟩
theorem SM.call {W : List (Nat × Nat)} {h h1 h2 : Hp} (f : SM h1 h) (hJ : JW W h1 h2) (w0 : ∀ j, wm W 95 j = false) (w1 : wm W 37 15 = false) : SM h2 h := ⟨fun j => (hJ.2 95 j (w0 j)).trans (f.1 j), (hJ.2 37 15 w1).trans f.2⟩
theorem SM.ft {h h1 : Hp} (f : SM h1 h) (q : FT h) : FT h1 := ⟨fun j => (f.1 j).trans (q.1 j), f.2.trans q.2⟩
theorem ix_in {i c : Int32} {L : Nat} (h0 : 0 ≤ i.toInt) (hi : i.toInt + 8 ≤ (L : Int)) (hL : L ≤ 4096) (hc : B c 0 7) : vp_in (i + c) L := by
  have c1 := hc.1
  have c2 := hc.2
  have e := w_add (x := i) (y := c) (by omega) (by omega)
  exact B.vp (⟨by rw [e]; omega, Int.le_refl _⟩ : B (i + c) 0 (i + c).toInt) (by decide) (by rw [e]; omega)
theorem ix_0 {i : Int32} {L : Nat} (h0 : 0 ≤ i.toInt) (hi : i.toInt + 8 ≤ (L : Int)) (hL : L ≤ 4096) : vp_in i L := B.vp (⟨h0, Int.le_refl _⟩ : B i 0 i.toInt) (by decide) (by omega)

