def QL : Pst := fun v _ _ => v = some (.int 1)
def Rel (h : Hp) : Prop := RTU h
def INV (h : Hp) : Prop := Bx h ∧ (h 63 0).toInt ≤ (h 63 3).toInt ∧ KS h ∧ Rel h
theorem RTU.call {W : List (Nat × Nat)} {h h1 : Hp} (hB : Bx h) (hR : RTU h) (hJ : JW W h h1) (w0 : wm W 23 1 = false) (w1 : wm W 63 16 = false) (w2 : wm W 28 2 = false) (w3 : wm W 63 23 = false) (w4 : ∀ j, wm W 24 j = false) (w5 : ∀ j, wm W 72 j = false) (w6 : ∀ j, wm W 30 j = false) (w7 : ∀ j, wm W 31 j = false) (w8 : ∀ j, wm W 32 j = false) (w9 : ∀ j, wm W 33 j = false) (w10 : ∀ j, wm W 34 j = false) (w11 : ∀ j, wm W 35 j = false) (w12 : ∀ j, wm W 36 j = false) (w13 : ∀ j, wm W 73 j = false) (w14 : ∀ j, wm W 74 j = false) : RTU h1 := rtu_of hR (by rw [hJ.2 23 1 w0, hJ.2 63 16 w1]; exact hR.1) (fun j hj => by
  rw [hJ.2 23 1 w0] at hj
  rw [hJ.2 24 j (w4 j), hJ.2 72 j (w5 j)]
  exact hR.2.1 j hj) (hJ.2 28 2 w2) (hJ.2 63 23 w3) (fr36 hJ w6 w7 w8 w9 w10 w11 w12) (fun j => hJ.2 73 j (w13 j)) (fun j => hJ.2 74 j (w14 j)) (hB 28 2)
theorem RT_ {h : Hp} (q : Rel h) : RTU h := q
theorem Rel.call {W : List (Nat × Nat)} {h h1 : Hp} (hB : Bx h) (hR : Rel h) (hJ : JW W h h1) (w0 : wm W 23 1 = false) (w1 : wm W 63 16 = false) (w2 : wm W 28 2 = false) (w3 : wm W 63 23 = false) (w4 : ∀ j, wm W 24 j = false) (w5 : ∀ j, wm W 72 j = false) (w6 : ∀ j, wm W 30 j = false) (w7 : ∀ j, wm W 31 j = false) (w8 : ∀ j, wm W 32 j = false) (w9 : ∀ j, wm W 33 j = false) (w10 : ∀ j, wm W 34 j = false) (w11 : ∀ j, wm W 35 j = false) (w12 : ∀ j, wm W 36 j = false) (w13 : ∀ j, wm W 73 j = false) (w14 : ∀ j, wm W 74 j = false) : Rel h1 := RTU.call hB hR hJ w0 w1 w2 w3 w4 w5 w6 w7 w8 w9 w10 w11 w12 w13 w14
theorem sv_call {W : List (Nat × Nat)} {h h1 : Hp} (hs : (h 63 0).toInt ≤ (h 63 3).toInt) (hJ : JW W h h1) (w0 : wm W 63 0 = false) (w3 : wm W 63 3 = false) : (h1 63 0).toInt ≤ (h1 63 3).toInt := by
  rw [hJ.2 63 0 w0, hJ.2 63 3 w3]
  exact hs
/-- the setting has no table yet -/
def FT (h : Hp) : Prop := (∀ j, h 95 j = 0) ∧ h 37 15 = 0
def SM (h1 h : Hp) : Prop := (∀ j, h1 95 j = h 95 j) ∧ h1 37 15 = h 37 15
theorem SM.refl (h : Hp) : SM h h := ⟨fun _ => rfl, rfl⟩
theorem SM.call {W : List (Nat × Nat)} {h h1 h2 : Hp} (f : SM h1 h) (hJ : JW W h1 h2) (w0 : ∀ j, wm W 95 j = false) (w1 : wm W 37 15 = false) : SM h2 h := ⟨fun j => (hJ.2 95 j (w0 j)).trans (f.1 j), (hJ.2 37 15 w1).trans f.2⟩
theorem SM.ft {h h1 : Hp} (f : SM h1 h) (q : FT h) : FT h1 := ⟨fun j => (f.1 j).trans (q.1 j), f.2.trans q.2⟩
theorem ix_in {i c : Int32} {L : Nat} (h0 : 0 ≤ i.toInt) (hi : i.toInt + 8 ≤ (L : Int)) (hL : L ≤ 4096) (hc : B c 0 7) : vp_in (i + c) L := by
  have c1 := hc.1
  have c2 := hc.2
  have e := w_add (x := i) (y := c) (by omega) (by omega)
  exact B.vp (⟨by rw [e]; omega, Int.le_refl _⟩ : B (i + c) 0 (i + c).toInt) (by decide) (by rw [e]; omega)
theorem ix_0 {i : Int32} {L : Nat} (h0 : 0 ≤ i.toInt) (hi : i.toInt + 8 ≤ (L : Int)) (hL : L ≤ 4096) : vp_in i L := B.vp (⟨h0, Int.le_refl _⟩ : B i 0 i.toInt) (by decide) (by omega)

