def QL : Pst := fun v _ _ => v = some (.int 1)
def Rel (h : Hp) : Prop := RE h ∧ RTU h ∧ RSh h
def INV (h : Hp) : Prop := Bx h ∧ (h 63 0).toInt ≤ (h 63 3).toInt ∧ KS h ∧ Rel h
theorem RTU.call {W : List (Nat × Nat)} {h h1 : Hp} (hB : Bx h) (hR : RTU h) (hJ : JW W h h1) (w0 : wm W 23 1 = false) (w1 : wm W 63 16 = false) (w2 : wm W 28 2 = false) (w3 : wm W 63 23 = false) (w4 : ∀ j, wm W 24 j = false) (w5 : ∀ j, wm W 72 j = false) (w6 : ∀ j, wm W 30 j = false) (w7 : ∀ j, wm W 31 j = false) (w8 : ∀ j, wm W 32 j = false) (w9 : ∀ j, wm W 33 j = false) (w10 : ∀ j, wm W 34 j = false) (w11 : ∀ j, wm W 35 j = false) (w12 : ∀ j, wm W 36 j = false) (w13 : ∀ j, wm W 73 j = false) (w14 : ∀ j, wm W 74 j = false) : RTU h1 := rtu_of hR (by rw [hJ.2 23 1 w0, hJ.2 63 16 w1]; exact hR.1) (fun j hj => by
  rw [hJ.2 23 1 w0] at hj
  rw [hJ.2 24 j (w4 j), hJ.2 72 j (w5 j)]
  exact hR.2.1 j hj) (hJ.2 28 2 w2) (hJ.2 63 23 w3) (fr36 hJ w6 w7 w8 w9 w10 w11 w12) (fun j => hJ.2 73 j (w13 j)) (fun j => hJ.2 74 j (w14 j)) (hB 28 2)
theorem RSh.call {W : List (Nat × Nat)} {h h1 : Hp} (hR : RSh h) (hJ : JW W h h1) (w0 : ∀ j, wm W 57 j = false) (w1 : ∀ j, wm W 58 j = false) (w2 : ∀ j, wm W 59 j = false) (w3 : ∀ j, wm W 60 j = false) (w4 : ∀ j, wm W 61 j = false) (w5 : ∀ j, wm W 62 j = false) (w6 : ∀ j, wm W 92 j = false) (w7 : ∀ j, wm W 93 j = false) (w8 : ∀ j, wm W 94 j = false) : RSh h1 := fun k hk => by
  obtain ⟨a1, a2, a3⟩ := hR k hk
  have e4 := hJ.2 61 k (w4 k)
  have e5 := hJ.2 62 k (w5 k)
  have e6 := hJ.2 92 k (w6 k)
  have e7 := hJ.2 93 k (w7 k)
  refine ⟨by rw [e5, e6]; exact a1, by rw [e4, e5, e6, e7]; exact a2, fun i hi => ?_⟩
  rw [hJ.2 94 _ (w8 _), ← a3 i hi]
  rcases (show k = 0 ∨ k = 1 ∨ k = 2 ∨ k = 3 by omega) with rfl | rfl | rfl | rfl
  · exact hJ.2 57 i (w0 i)
  · exact hJ.2 58 i (w1 i)
  · exact hJ.2 59 i (w2 i)
  · exact hJ.2 60 i (w3 i)
theorem E_ {h : Hp} (q : Rel h) : RE h := q.1
theorem RT_ {h : Hp} (q : Rel h) : RTU h := q.2.1
theorem S_ {h : Hp} (q : Rel h) : RSh h := q.2.2
theorem Rel.call {W : List (Nat × Nat)} {h h1 : Hp} (hB : Bx h) (hR : Rel h) (hJ : JW W h h1) (w0 : ∀ j, wm W 2 j = false) (w1 : ∀ j, wm W 4 j = false) (w2 : ∀ j, wm W 5 j = false) (w3 : ∀ j, wm W 6 j = false) (w4 : ∀ j, wm W 7 j = false) (w5 : ∀ j, wm W 8 j = false) (w6 : ∀ j, wm W 9 j = false) (w7 : ∀ j, wm W 10 j = false) (w8 : ∀ j, wm W 11 j = false) (w9 : ∀ j, wm W 13 j = false) (w10 : ∀ j, wm W 14 j = false) (w11 : ∀ j, wm W 15 j = false) (w12 : ∀ j, wm W 16 j = false) (w13 : ∀ j, wm W 17 j = false) (w14 : ∀ j, wm W 18 j = false) (w15 : ∀ j, wm W 19 j = false) (w16 : ∀ j, wm W 20 j = false) (w17 : ∀ j, wm W 21 j = false) (w18 : ∀ j, wm W 22 j = false) (w19 : wm W 63 0 = false) (w20 : wm W 63 1 = false) (w21 : wm W 63 2 = false) (w22 : wm W 63 3 = false) (w23 : wm W 63 4 = false) (w24 : wm W 63 5 = false) (w25 : wm W 63 13 = false) (w26 : ∀ j, wm W 64 j = false) (w27 : ∀ j, wm W 65 j = false) (w28 : ∀ j, wm W 66 j = false) (w29 : ∀ j, wm W 67 j = false) (w30 : ∀ j, wm W 68 j = false) (w31 : ∀ j, wm W 69 j = false) (w32 : ∀ j, wm W 70 j = false) (w33 : ∀ j, wm W 71 j = false) (w34 : wm W 23 1 = false) (w35 : wm W 63 16 = false) (w36 : wm W 28 2 = false) (w37 : wm W 63 23 = false) (w38 : ∀ j, wm W 24 j = false) (w39 : ∀ j, wm W 72 j = false) (w40 : ∀ j, wm W 30 j = false) (w41 : ∀ j, wm W 31 j = false) (w42 : ∀ j, wm W 32 j = false) (w43 : ∀ j, wm W 33 j = false) (w44 : ∀ j, wm W 34 j = false) (w45 : ∀ j, wm W 35 j = false) (w46 : ∀ j, wm W 36 j = false) (w47 : ∀ j, wm W 73 j = false) (w48 : ∀ j, wm W 74 j = false) (w49 : ∀ j, wm W 57 j = false) (w50 : ∀ j, wm W 58 j = false) (w51 : ∀ j, wm W 59 j = false) (w52 : ∀ j, wm W 60 j = false) (w53 : ∀ j, wm W 61 j = false) (w54 : ∀ j, wm W 62 j = false) (w55 : ∀ j, wm W 92 j = false) (w56 : ∀ j, wm W 93 j = false) (w57 : ∀ j, wm W 94 j = false) : Rel h1 := ⟨RE.call hR.1 hJ w0 w1 w2 w3 w4 w5 w6 w7 w8 w9 w10 w11 w12 w13 w14 w15 w16 w17 w18 w19 w20 w21 w22 w23 w24 w25 w26 w27 w28 w29 w30 w31 w32 w33, RTU.call hB hR.2.1 hJ w34 w35 w36 w37 w38 w39 w40 w41 w42 w43 w44 w45 w46 w47 w48, RSh.call (S_ hR) hJ w49 w50 w51 w52 w53 w54 w55 w56 w57⟩
theorem sv_call {W : List (Nat × Nat)} {h h1 : Hp} (hs : (h 63 0).toInt ≤ (h 63 3).toInt) (hJ : JW W h h1) (w0 : wm W 63 0 = false) (w3 : wm W 63 3 = false) : (h1 63 0).toInt ≤ (h1 63 3).toInt := by
  rw [hJ.2 63 0 w0, hJ.2 63 3 w3]
  exact hs
/-- the setting has no table yet -/
def FT (h : Hp) : Prop := (∀ j, h 95 j = 0) ∧ h 37 15 = 0
def SM (h1 h : Hp) : Prop := (∀ j, h1 95 j = h 95 j) ∧ h1 37 15 = h 37 15
theorem SM.refl (h : Hp) : SM h h := ⟨fun _ => rfl, rfl⟩
theorem SM.call {W : List (Nat × Nat)} {h h1 h2 : Hp} (f : SM h1 h) (hJ : JW W h1 h2) (w0 : ∀ j, wm W 95 j = false) (w1 : wm W 37 15 = false) : SM h2 h := ⟨fun j => (hJ.2 95 j (w0 j)).trans (f.1 j), (hJ.2 37 15 w1).trans f.2⟩
theorem SM.ft {h h1 : Hp} (f : SM h1 h) (q : FT h) : FT h1 := ⟨fun j => (f.1 j).trans (q.1 j), f.2.trans q.2⟩
theorem ix_in {i c : Int32} {L : Nat} (h0 : 0 ≤ i.toInt) (hi : i.toInt + 8 ≤ (L : Int)) (hL : L ≤ 4096) (hc : B c 0 7) : vp_in (i + c) L := by
  have c1 := hc.1
  have c2 := hc.2
  have e := w_add (x := i) (y := c) (by omega) (by omega)
  exact B.vp (⟨by rw [e]; omega, Int.le_refl _⟩ : B (i + c) 0 (i + c).toInt) (by decide) (by rw [e]; omega)
theorem ix_0 {i : Int32} {L : Nat} (h0 : 0 ≤ i.toInt) (hi : i.toInt + 8 ≤ (L : Int)) (hL : L ≤ 4096) : vp_in i L := B.vp (⟨h0, Int.le_refl _⟩ : B i 0 i.toInt) (by decide) (by omega)

