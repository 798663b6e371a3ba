def QL : Pst := fun v _ _ => v = some (.int 1)
def Rel (h : Hp) : Prop := RV h
def INV (h : Hp) : Prop := Bx h ∧ (h 63 0).toInt ≤ (h 63 3).toInt ∧ KS h ∧ Rel h
theorem Rel.call {W : List (Nat × Nat)} {h h1 : Hp} (hR : Rel h) (hJ : JW W h h1) (w0 : wm W 50 2 = false) (w1 : wm W 50 5 = false) (w2 : wm W 50 6 = false) (w3 : wm W 63 45 = false) (w4 : wm W 63 48 = false) (w5 : wm W 63 51 = false) (w6 : ∀ j, wm W 51 j = false) (w7 : ∀ j, wm W 52 j = false) (w8 : ∀ j, wm W 53 j = false) (w9 : ∀ j, wm W 54 j = false) (w10 : ∀ j, wm W 88 j = false) (w11 : ∀ j, wm W 89 j = false) (w12 : ∀ j, wm W 90 j = false) (w13 : ∀ j, wm W 91 j = false) : Rel h1 := by
  have e0 := hJ.2 50 2 w0
  have e1 := hJ.2 50 5 w1
  have e2 := hJ.2 50 6 w2
  have e3 := hJ.2 63 45 w3
  have e4 := hJ.2 63 48 w4
  have e5 := hJ.2 63 51 w5
  have e6 : ∀ j, h1 51 j = h 51 j := fun j => hJ.2 51 j (w6 j)
  have e7 : ∀ j, h1 52 j = h 52 j := fun j => hJ.2 52 j (w7 j)
  have e8 : ∀ j, h1 53 j = h 53 j := fun j => hJ.2 53 j (w8 j)
  have e9 : ∀ j, h1 54 j = h 54 j := fun j => hJ.2 54 j (w9 j)
  have e10 : ∀ j, h1 88 j = h 88 j := fun j => hJ.2 88 j (w10 j)
  have e11 : ∀ j, h1 89 j = h 89 j := fun j => hJ.2 89 j (w11 j)
  have e12 : ∀ j, h1 90 j = h 90 j := fun j => hJ.2 90 j (w12 j)
  have e13 : ∀ j, h1 91 j = h 91 j := fun j => hJ.2 91 j (w13 j)
  unfold Rel RV at hR ⊢
  simp only [e0, e1, e2, e3, e4, e5, e6, e7, e8, e9, e10, e11, e12, e13]
  exact hR
theorem sv_call {W : List (Nat × Nat)} {h h1 : Hp} (hs : (h 63 0).toInt ≤ (h 63 3).toInt) (hJ : JW W h h1) (w0 : wm W 63 0 = false) (w3 : wm W 63 3 = false) : (h1 63 0).toInt ≤ (h1 63 3).toInt := by
  rw [hJ.2 63 0 w0, hJ.2 63 3 w3]
  exact hs
/-- the setting has no table yet -/
def FT (h : Hp) : Prop := (∀ j, h 95 j = 0) ∧ h 37 15 = 0
def SM (h1 h : Hp) : Prop := (∀ j, h1 95 j = h 95 j) ∧ h1 37 15 = h 37 15
theorem SM.refl (h : Hp) : SM h h := ⟨fun _ => rfl, rfl⟩
theorem SM.call {W : List (Nat × Nat)} {h h1 h2 : Hp} (f : SM h1 h) (hJ : JW W h1 h2) (w0 : ∀ j, wm W 95 j = false) (w1 : wm W 37 15 = false) : SM h2 h := ⟨fun j => (hJ.2 95 j (w0 j)).trans (f.1 j), (hJ.2 37 15 w1).trans f.2⟩
theorem SM.ft {h h1 : Hp} (f : SM h1 h) (q : FT h) : FT h1 := ⟨fun j => (f.1 j).trans (q.1 j), f.2.trans q.2⟩
theorem ix_in {i c : Int32} {L : Nat} (h0 : 0 ≤ i.toInt) (hi : i.toInt + 8 ≤ (L : Int)) (hL : L ≤ 4096) (hc : B c 0 7) : vp_in (i + c) L := by
  have c1 := hc.1
  have c2 := hc.2
  have e := w_add (x := i) (y := c) (by omega) (by omega)
  exact B.vp (⟨by rw [e]; omega, Int.le_refl _⟩ : B (i + c) 0 (i + c).toInt) (by decide) (by rw [e]; omega)
theorem ix_0 {i : Int32} {L : Nat} (h0 : 0 ≤ i.toInt) (hi : i.toInt + 8 ≤ (L : Int)) (hL : L ≤ 4096) : vp_in i L := B.vp (⟨h0, Int.le_refl _⟩ : B i 0 i.toInt) (by decide) (by omega)
