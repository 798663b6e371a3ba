theorem dv10 (x : Int32) : (x / 10).toInt = x.toInt.tdiv 10 ∧ (x / 10 * 10).toInt = x.toInt.tdiv 10 * 10 := by
  have e10 : (10 : Int32).toInt = 10 := by decide
  have h1 := Int32.le_toInt x
  have h2 := Int32.toInt_lt x
  have b : -214748365 ≤ x.toInt.tdiv 10 ∧ x.toInt.tdiv 10 ≤ 214748364 ∧ -2147483648 ≤ x.toInt.tdiv 10 * 10 ∧ x.toInt.tdiv 10 * 10 ≤ 2147483647 := by
    rcases Int.le_total 0 x.toInt with q | q
    · rw [Int.tdiv_eq_ediv_of_nonneg q]
      omega
    · have e : x.toInt.tdiv 10 = -((-x.toInt) / 10) := by
        rw [← Int.tdiv_eq_ediv_of_nonneg (by omega : 0 ≤ -x.toInt), Int.neg_tdiv, Int.neg_neg]
      rw [e]
      omega
  have e1 : (x / 10).toInt = x.toInt.tdiv 10 := by
    rw [Int32.toInt_div, e10]
    exact Int.bmod_eq_of_le (by omega) (by omega)
  refine ⟨e1, ?_⟩
  rw [Int32.toInt_mul, e1, e10]
  exact Int.bmod_eq_of_le (by omega) (by omega)
theorem xor10 (x : Int32) : (0 ≤ x ^^^ 10) ↔ 0 ≤ x := by
  have e : ∀ y : Int32, (0 ≤ y) ↔ y.toBitVec.msb = false := fun y => by
    have e0 : (0 : Int32).toInt = 0 := by decide
    rw [Int32.le_iff_toInt_le, e0]
    show 0 ≤ y.toBitVec.toInt ↔ _
    rw [BitVec.msb_eq_toInt, decide_eq_false_iff_not]
    omega
  rw [e, e, Int32.toBitVec_xor, BitVec.msb_xor]
  have m : (10 : Int32).toBitVec.msb = false := by decide
  rw [m, Bool.xor_false]
theorem fd10 (x : Int32) : z_fd x 10 = z_dn x 10 := by
  obtain ⟨d1, d2⟩ := dv10 x
  have e0 : (0 : Int32).toInt = 0 := by decide
  have h1 := Int32.le_toInt x
  have h2 := Int32.toInt_lt x
  have hr : -10 < x.toInt - x.toInt.tdiv 10 * 10 ∧ x.toInt - x.toInt.tdiv 10 * 10 < 10 ∧ (0 ≤ x.toInt → 0 ≤ x.toInt - x.toInt.tdiv 10 * 10) ∧ (x.toInt ≤ 0 → x.toInt - x.toInt.tdiv 10 * 10 ≤ 0) := by
    rcases Int.le_total 0 x.toInt with q | q
    · rw [Int.tdiv_eq_ediv_of_nonneg q]
      omega
    · have e : x.toInt.tdiv 10 = -((-x.toInt) / 10) := by
        rw [← Int.tdiv_eq_ediv_of_nonneg (by omega : 0 ≤ -x.toInt), Int.neg_tdiv, Int.neg_neg]
      rw [e]
      omega
  have es := w_sub (x := x) (y := x / 10 * 10) (by rw [d2]; omega) (by rw [d2]; omega)
  rw [d2] at es
  unfold z_fd z_dn
  by_cases q : 0 ≤ x
  · have q2 := w_le q
    rw [if_pos ((xor10 x).mpr q), if_pos (Int32.le_iff_toInt_le.mpr (by omega))]
  · rw [if_neg (fun z => q ((xor10 x).mp z))]
    have q2 := w_lt (Int32.not_le.mp q)
    by_cases c : x / 10 * 10 = x
    · have c2 := congrArg Int32.toInt c
      rw [if_pos c, if_pos (Int32.le_iff_toInt_le.mpr (by omega))]
    · rw [if_neg c]
      have c2 : x.toInt.tdiv 10 * 10 ≠ x.toInt := fun z => c (Int32.toInt_inj.mp (by omega))
      rw [if_neg (fun z => by have := w_le z; omega)]
theorem off_eq {h : Hp} {w : Nat} (hW : RW1 h w) (p : Int32) : o_off h w p = o_moff h w p := by
  obtain ⟨-, -, z3, -, z5, z6, -, -⟩ := hW
  unfold o_off o_bent o_moff
  rw [z3, z5, z6, fd10]
theorem drawn_eq {h : Hp} (c : Int32) : ∀ m, (∀ w, w < m → RW1 h w) → s_drawn h c (h 4 6) m = s_md h c m
  | 0, _ => rfl
  | m + 1, hW => by
    obtain ⟨-, z2, -, -, -, -, z7, -⟩ := hW m (by omega)
    have ih := drawn_eq c m (fun w hw => hW w (by omega))
    unfold s_drawn s_md
    rw [ih, z2, z7]
    rcases bit_01 c (nI m &&& 31) with q | q
    · rw [if_pos q, if_neg (show ¬ c >>> (nI m &&& 31) &&& 1 = 1 by rw [q]; decide)]
      by_cases y : h 70 m = 0
      · rw [if_pos y, if_pos y, Int32.add_zero]
      · rw [if_neg y, if_neg y]
    · rw [if_neg (show ¬ c >>> (nI m &&& 31) &&& 1 = 0 by rw [q]; decide), if_pos q]
theorem s_ms_nn (h : Hp) (c p : Int32) : ∀ m, 0 ≤ s_ms h c p m
  | 0 => by unfold s_ms; decide
  | m + 1 => by
    have ih := s_ms_nn h c p m
    unfold s_ms
    split
    · split
      · exact ih
      · rename_i q; exact Int32.le_trans ih (Int32.le_of_lt (Int32.not_le.mp q))
    · first | exact ih | (rw [if_pos ih]; exact ih)
theorem stray_eq {h : Hp} (c p : Int32) : ∀ m, (∀ w, w < m → RW1 h w) → s_stray h c p m = s_ms h c p m
  | 0, _ => rfl
  | m + 1, hW => by
    have ih := stray_eq c p m (fun w hw => hW w (by omega))
    have eo := off_eq (hW m (by omega)) p
    have ea : z_abs (o_moff h m p) = z_sz (o_moff h m p) := rfl
    unfold s_stray s_ms
    rw [ih, eo, ea]
    rcases bit_01 c (nI m &&& 31) with q | q
    · rw [if_pos q, if_neg (show ¬ c >>> (nI m &&& 31) &&& 1 = 1 by rw [q]; decide), if_pos (s_ms_nn h c p m)]
    · rw [if_neg (show ¬ c >>> (nI m &&& 31) &&& 1 = 0 by rw [q]; decide), if_pos q]
      unfold z_max
      by_cases y : s_ms h c p m < z_sz (o_moff h m p)
      · rw [if_pos y, if_neg (Int32.not_le.mpr y)]
      · rw [if_neg y, if_pos (Int32.not_lt.mp y)]
theorem md_nn {h : Hp} (c : Int32) : ∀ m, m ≤ 12 → (∀ w, w < m → RW1 h w) → 0 ≤ (s_md h c m).toInt ∧ (s_md h c m).toInt ≤ 9 * (m : Int)
  | 0, _, _ => by unfold s_md; decide
  | m + 1, hm, hW => by
    obtain ⟨-, z2, -, -, -, -, z7, z8, -⟩ := hW m (by omega)
    have ih := md_nn c m (by omega) (fun w hw => hW w (by omega))
    rw [z2] at z8
    have z81 := z8.1
    have z82 := z8.2
    have e2 : (2 : Int32).toInt = 2 := by decide
    have e0 : (0 : Int32).toInt = 0 := by decide
    unfold s_md
    split
    · rw [w_add (by omega) (by omega)]; omega
    · split
      · rw [Int32.add_zero]; omega
      · have ed : (h 65 m / 2).toInt = (h 65 m).toInt / 2 := by
          rw [Int32.toInt_div, e2, Int.tdiv_eq_ediv_of_nonneg (by omega)]
          exact Int.bmod_eq_of_le (by omega) (by omega)
        rw [w_add (by omega) (by omega), ed]
        omega
theorem z_all_nI {m : Nat} (hm : m ≤ 12) : z_all (nI m) = nI (2 ^ m - 1) ∧ 1 <<< (nI m &&& 31) - 1 = nI (2 ^ m - 1) := by
  rcases (show m = 0 ∨ m = 1 ∨ m = 2 ∨ m = 3 ∨ m = 4 ∨ m = 5 ∨ m = 6 ∨ m = 7 ∨ m = 8 ∨ m = 9 ∨ m = 10 ∨ m = 11 ∨ m = 12 by omega) with rfl | rfl | rfl | rfl | rfl | rfl | rfl | rfl | rfl | rfl | rfl | rfl | rfl <;> decide
theorem msk_get {m i : Nat} (hm : m ≤ 12) (hi : i < 32) : (nI (2 ^ m - 1)).toBitVec.getLsbD i = decide (i < m) := by
  show (BitVec.ofNat 32 (2 ^ m - 1)).getLsbD i = _
  rw [BitVec.getLsbD_ofNat, Nat.testBit_two_pow_sub_one, decide_eq_true hi, Bool.true_and]
theorem m1_get {i : Nat} (hi : i < 32) : (-1 : Int32).toBitVec.getLsbD i = true := by
  show (BitVec.allOnes 32).getLsbD i = true
  rw [BitVec.getLsbD_allOnes, decide_eq_true hi]
theorem msk_iff (c : Int32) {m : Nat} (hm : m ≤ 12) : c &&& (nI (2 ^ m - 1) ^^^ (-1)) = 0 ↔ c.toBitVec.toNat < 2 ^ m := by
  constructor
  · intro e
    refine Nat.lt_pow_two_of_testBit _ (fun i hi => ?_)
    by_cases q : i < 32
    · have b := congrArg (fun z : Int32 => z.toBitVec.getLsbD i) e
      rw [Int32.toBitVec_and, BitVec.getLsbD_and, Int32.toBitVec_xor, BitVec.getLsbD_xor, msk_get hm q, m1_get q, decide_eq_false (by omega : ¬ i < m)] at b
      have z : (0 : Int32).toBitVec.getLsbD i = false := by
        show (0#32).getLsbD i = false
        rw [BitVec.getLsbD_zero]
      rw [z] at b
      have b2 : c.toBitVec.getLsbD i = false := by simpa using b
      exact b2
    · exact Nat.testBit_lt_two_pow (Nat.lt_of_lt_of_le c.toBitVec.isLt (Nat.pow_le_pow_right (by decide) (by omega)))
  · intro hl
    refine Int32.toBitVec_inj.mp (BitVec.eq_of_getLsbD_eq (fun i hi => ?_))
    rw [Int32.toBitVec_and, BitVec.getLsbD_and, Int32.toBitVec_xor, BitVec.getLsbD_xor, msk_get hm hi, m1_get hi]
    have z : (0 : Int32).toBitVec.getLsbD i = false := by
      show (0#32).getLsbD i = false
      rw [BitVec.getLsbD_zero]
    rw [z]
    by_cases q : i < m
    · rw [decide_eq_true q]; simp
    · have t : c.toBitVec.getLsbD i = false := Nat.testBit_lt_two_pow (Nat.lt_of_lt_of_le hl (Nat.pow_le_pow_right (by decide) (by omega)))
      rw [t, Bool.false_and]
theorem pw12 {m : Nat} (hm : m ≤ 12) : 1 ≤ 2 ^ m ∧ 2 ^ m ≤ 4096 := by
  rcases (show m = 0 ∨ m = 1 ∨ m = 2 ∨ m = 3 ∨ m = 4 ∨ m = 5 ∨ m = 6 ∨ m = 7 ∨ m = 8 ∨ m = 9 ∨ m = 10 ∨ m = 11 ∨ m = 12 by omega) with rfl | rfl | rfl | rfl | rfl | rfl | rfl | rfl | rfl | rfl | rfl | rfl | rfl <;> decide
theorem all_eq (c : Int32) {m : Nat} (hm : m ≤ 12) : z_hasAll c (nI m) = z_inA c (nI m) := by
  have hp := pw12 hm
  unfold z_hasAll z_inA z_wi
  rw [(z_all_nI hm).1, (z_all_nI hm).2]
  have e0 : (0 : Int32).toInt = 0 := by decide
  have em := nI_toInt (show 2 ^ m - 1 < 2 ^ 31 by omega)
  by_cases q : c.toBitVec.toNat < 2 ^ m
  · rw [if_pos ((msk_iff c hm).mpr q)]
    have e := w_of_nat c (by omega)
    rw [if_neg (fun z => by have := w_lt z; omega), if_neg (fun z => by have := w_lt z; omega)]
  · rw [if_neg (fun z => q ((msk_iff c hm).mp z))]
    by_cases n : c < 0
    · rw [if_pos n]
    · rw [if_neg n]
      have n2 := w_nlt n
      by_cases y : nI (2 ^ m - 1) < c
      · rw [if_pos y]
      · exfalso
        have y2 := w_nlt y
        have l : c.toBitVec.toNat < 2147483648 := by
          have z := c.toBitVec.isLt
          rcases Nat.lt_or_ge c.toBitVec.toNat 2147483648 with g | g
          · exact g
          · exfalso
            have t : c.toInt = (c.toBitVec.toNat : Int) - 4294967296 := by
              show c.toBitVec.toInt = _
              rw [BitVec.toInt_eq_toNat_cond, if_neg (by omega)]
              rfl
            omega
        have e := w_of_nat c l
        omega
theorem pass_0 (X : Hp) (d : Int32) : z_pass X 2 d 2 0 = g_0 (X 2 0) (X 2 1) (X 2 2) (X 2 3) d := by
  unfold z_pass g_0
  rw [if_pos rfl]
  show (if g_p (X 2 0) (X 2 1) (X 2 2) d ≤ X 2 3 then _ else _) = _
  split <;> rfl
theorem pass_1 (X : Hp) (d : Int32) : z_pass X 2 d 2 1 = g_1 (X 2 0) (X 2 1) (X 2 2) (X 2 3) d := by
  unfold z_pass g_1
  rw [if_pos rfl]
  show (if g_p (X 2 0) (X 2 1) (X 2 2) d ≤ X 2 3 then _ else _) = _
  split <;> rfl
theorem pass_4 (X : Hp) (d : Int32) : z_pass X 2 d 2 4 = g_4 (X 2 0) (X 2 1) (X 2 2) (X 2 3) d (X 2 4) := by
  unfold z_pass g_4
  rw [if_pos rfl]
  show (if g_p (X 2 0) (X 2 1) (X 2 2) d ≤ X 2 3 then _ else _) = _
  split <;> rfl
theorem pass_o {X : Hp} {d : Int32} {i j : Nat} (h : i ≠ 2 ∨ (j ≠ 0 ∧ j ≠ 1 ∧ j ≠ 4)) : z_pass X 2 d i j = X i j := by
  unfold z_pass
  by_cases e : i = 2
  · subst e
    rcases h with q | ⟨q0, q1, q4⟩
    · exact absurd rfl q
    · rw [if_pos rfl]
      split
      · first | rfl | rw [if_neg q0, if_neg q1]
      · first | rfl | rw [if_neg q0, if_neg q1, if_neg q4]
  · rw [if_neg e]
theorem g0_B {p w f v d : Int32} (hv : B v 0 200) : B (g_0 p w f v d) 0 200 := by
  unfold g_0
  split
  · rename_i q
    have z := w_le q
    have z0 : 0 ≤ (g_p p w f d).toInt := z_max_0 _
    have := hv.2
    exact ⟨z0, by omega⟩
  · exact hv
theorem k_mg_63 (h : Hp) (a0 a1 a4 : Int32) : k_mg h a0 a1 a4 63 0 = a0 ∧ k_mg h a0 a1 a4 63 1 = a1 ∧ k_mg h a0 a1 a4 63 4 = a4 := ⟨rfl, rfl, rfl⟩
theorem k_mg_6o {h : Hp} {a0 a1 a4 : Int32} {j : Nat} (h0 : j ≠ 0) (h1 : j ≠ 1) (h4 : j ≠ 4) : k_mg h a0 a1 a4 63 j = h 63 j := by
  unfold k_mg
  rw [if_pos rfl, if_neg h0, if_neg h1, if_neg h4]
theorem jw_pass {W : List (Nat × Nat)} {h0 X : Hp} (hJ : JW W h0 X) (d : Int32) (w0 : wm W 2 0 = true) (w1 : wm W 2 1 = true) (w4 : wm W 2 4 = true) : JW W h0 (z_pass X 2 d) := by
  refine ⟨fun i j => ?_, fun i j q => ?_⟩
  · by_cases e : i = 2
    · subst e
      by_cases j0 : j = 0
      · subst j0; rw [pass_0]; exact g0_B (hJ.1 2 3)
      · by_cases j1 : j = 1
        · subst j1; exact B.any _
        · by_cases j4 : j = 4
          · subst j4; exact B.any _
          · rw [pass_o (Or.inr ⟨j0, j1, j4⟩)]; exact hJ.1 2 j
    · rw [pass_o (Or.inl e)]; exact hJ.1 i j
  · by_cases e : i = 2
    · subst e
      rw [pass_o (Or.inr ⟨(fun z => by rw [z, w0] at q; cases q), (fun z => by rw [z, w1] at q; cases q), (fun z => by rw [z, w4] at q; cases q)⟩)]
      exact hJ.2 2 j q
    · rw [pass_o (Or.inl e)]
      exact hJ.2 i j q
theorem w_beatZ (L : Nat) (b : Bool) (h : Hp) (hB : Bx h) (c : Int32) : EvI mi_X9_beat [.ref 1, .int c] (G0 L b) h (fun r z => r = r_beat h (nX h) (nW h) c ∧ z = k_beat h (nX h) (nW h) c) [(11, 1), (11, 2), (11, 3), (13, 999), (14, 999), (15, 999), (16, 999), (17, 999), (18, 999), (19, 999), (20, 999), (21, 999), (22, 999), (2, 0), (2, 1), (2, 4)] := by
  refine (x_beat L b h (nW h) (B.nI (u := 12) (hB 4 7)).2 (B.nI (u := 12) (hB 4 7)).1 (nX h) (nX_lt hB) (nX_eq hB) c).ix ?_
  have J0 : JW [(11, 1), (11, 2), (11, 3), (13, 999), (14, 999), (15, 999), (16, 999), (17, 999), (18, 999), (19, 999), (20, 999), (21, 999), (22, 999), (2, 0), (2, 1), (2, 4)] h (k_keep h (nX h)) := (jw_keep hB (nX_lt hB)).widen rfl
  unfold k_beat
  repeat' split
  all_goals first | exact JW.refl hB | exact jw_pass J0 _ rfl rfl rfl
theorem w_mbeatZ (L : Nat) (b : Bool) (h : Hp) (hB : Bx h) (c : Int32) (hd : 0 ≤ (s_md h c (h 63 5).toNatClampNeg).toInt) : EvI mi_X10_beat [.ref 63, .int c] (G0 L b) h (fun r z => r = rmBe h (h 63 5).toNatClampNeg c ∧ z = kmBe h (h 63 5).toNatClampNeg c) [(63, 13), (71, 999), (63, 0), (63, 1), (63, 4)] := by
  refine (m_xbeat L b h hB (jw_mkp hB).1 _ (B.nI (u := 12) (hB 63 5)).2 (B.nI (u := 12) (hB 63 5)).1 c hd).ix ?_
  have J0 : JW [(63, 13), (71, 999), (63, 0), (63, 1), (63, 4)] h (k_mkp h) := (jw_mkp hB).widen rfl
  unfold kmBe
  repeat' split
  all_goals first | exact JW.refl hB | exact JW.call J0 (jw_mg J0.1 (g0_B (hB 63 3))) rfl
theorem rel_beat {h h1 : Hp} (hB : Bx h) (hB1 : Bx h1) (hE : RE h) (c : Int32) (e1 : h1 = k_beat h (nX h) (nW h) c) : r_beat h (nX h) (nW h) c = rmBe h1 (h1 63 5).toNatClampNeg c ∧ RE (kmBe h1 (h1 63 5).toNatClampNeg c) := by
  obtain ⟨⟨b0, b1, b2, b3, b4⟩, hW, hA⟩ := id hE
  have ln := nX_lt hB
  have l12 : nW h ≤ 12 := (B.nI (u := 12) (hB 4 7)).2
  have w1 := hW.1
  have en : h 4 7 = nI (nW h) := (B.nI (u := 12) (hB 4 7)).1
  have ae : z_hasAll c (h 4 7) = z_inA c (h 63 5) := by rw [← w1, en]; exact all_eq c l12
  have de := drawn_eq c (nW h) hW.2.1
  have se := stray_eq c (h 2 0) (nW h) hW.2.1
  have n5 : (h 63 5).toNatClampNeg = nW h := by unfold nW; rw [w1]
  have sk : s_stray (k_keep h (nX h)) c (h 2 0) (nW h) = s_stray h c (h 2 0) (nW h) := by
    have g : ∀ m, s_stray (k_keep h (nX h)) c (h 2 0) m = s_stray h c (h 2 0) m := fun m => by
      induction m with
      | zero => rfl
      | succ m ih =>
        unfold s_stray o_off o_bent
        rw [ih, kk_ne ln (by decide) (by decide), kk_ne ln (by decide) (by decide), kk_ne ln (by decide) (by decide)]
    exact g _
  by_cases q0 : z_hasAll c (h 4 7) = 0
  · have q0' : z_inA c (h 63 5) = 0 := by rw [← ae]; exact q0
    have e : h1 = h := by rw [e1]; unfold k_beat; rw [if_pos q0]
    unfold r_beat rmBe kmBe
    rw [e, if_pos q0, if_pos q0', if_pos q0']
    exact ⟨rfl, hE⟩
  · have q0' : ¬ z_inA c (h 63 5) = 0 := by rw [← ae]; exact q0
    by_cases q1 : s_drawn h c (h 4 6) (nW h) ≤ h 2 1
    · have e : h1 = z_pass (k_keep h (nX h)) 2 (s_drawn h c (h 4 6) (nW h)) := by rw [e1]; unfold k_beat; rw [if_neg q0, if_pos q1]
      have c63 : ∀ i j, 63 ≤ i → h1 i j = h i j := fun i j hi => by rw [e, pass_o (Or.inl (by omega))]; exact kk_ne ln (by omega) (by omega)
      have c4 : ∀ i j, 4 ≤ i → i ≤ 10 → h1 i j = h i j := fun i j g1 g2 => by rw [e, pass_o (Or.inl (by omega))]; exact kk_ne ln (by omega) (by omega)
      have m5 : (h1 63 5).toNatClampNeg = nW h := by rw [c63 63 5 (by decide)]; exact n5
      have dm : s_md h1 c (nW h) = s_drawn h c (h 4 6) (nW h) := by rw [de]; exact s_md_cg (fun k => c63 65 k (by decide)) (fun k => c63 70 k (by decide)) c _
      have sm : s_ms h1 c (h 63 0) (nW h) = s_ms h c (h 63 0) (nW h) := s_ms_cg (fun k => c63 66 k (by decide)) (fun k => c63 68 k (by decide)) (fun k => c63 69 k (by decide)) c _ _
      have q0m : ¬ z_inA c (h1 63 5) = 0 := by rw [c63 63 5 (by decide)]; exact q0'
      have q1m : s_md h1 c (nW h) ≤ h1 63 1 := by rw [dm, c63 63 1 (by decide), ← b1]; exact q1
      unfold r_beat rmBe kmBe
      rw [m5, if_neg q0, if_pos q1, if_neg q0m, if_pos q1m, if_neg q0m, if_pos q1m]
      have ke : ∀ f, k_keep h (nX h) 2 f = h 2 f := fun f => kk_ne ln (by decide) (by decide)
      have k63 : ∀ f, f ≠ 13 → k_mkp h1 63 f = h 63 f := fun f hf => by rw [k_mkp_63 hf]; exact c63 63 f (by decide)
      refine ⟨?_, act_re hB hB1 hE (fun j => by rw [e, pass_o (Or.inl (by decide))]) (fun i hi j => by rw [e, pass_o (Or.inl (by omega))]) c63 (fun j => by rw [k_mg_ne (by decide), k_mkp_o (by decide) (by decide)]) (fun i hi j => by rw [k_mg_ne (by omega), k_mkp_o (by omega) (by omega)]) (fun j => k_mg_ne (by decide)) (k_mg_6o (by decide) (by decide) (by decide)) ?_ ?_ (RWs.cg hW (fun i j g1 g2 => by rw [k_mg_ne (by omega), k_mkp_o (by omega) (by omega)]; exact c4 i j g1 g2) (by rw [k_mg_6o (by decide) (by decide) (by decide)]; exact k63 5 (by decide)) (fun i j g1 g2 => by rw [k_mg_ne (by omega), k_mkp_o (by omega) (by omega)]; exact c63 i j (by omega)))⟩
      · rw [sk, se, c63 63 0 (by decide), sm, b0]
      · unfold nW
        rw [k_mg_ne (by decide), k_mkp_o (by decide) (by decide), c4 4 7 (by decide) (by decide)]
      · have h2f : ∀ f, k_mg (k_mkp h1) (g_0 (h1 63 0) (h1 63 1) (h1 63 2) (h1 63 3) (s_md h1 c (nW h))) (g_1 (h1 63 0) (h1 63 1) (h1 63 2) (h1 63 3) (s_md h1 c (nW h))) (g_4 (h1 63 0) (h1 63 1) (h1 63 2) (h1 63 3) (s_md h1 c (nW h)) (h1 63 4)) 2 f = h1 2 f := fun f => by rw [k_mg_ne (by decide), k_mkp_o (by decide) (by decide)]
        unfold RBo
        rw [h2f, h2f, h2f, h2f, h2f, (k_mg_63 _ _ _ _).1, (k_mg_63 _ _ _ _).2.1, (k_mg_63 _ _ _ _).2.2, k_mg_6o (by decide) (by decide) (by decide), k_mg_6o (by decide) (by decide) (by decide), k63 2 (by decide), k63 3 (by decide), dm, c63 63 0 (by decide), c63 63 1 (by decide), c63 63 2 (by decide), c63 63 3 (by decide), c63 63 4 (by decide), e, pass_0, pass_1, pass_4, pass_o (Or.inr ⟨by decide, by decide, by decide⟩), pass_o (Or.inr ⟨by decide, by decide, by decide⟩), ke, ke, ke, ke, ke, b0, b1, b2, b3, b4]
        exact ⟨rfl, rfl, rfl, rfl, rfl⟩
    · have e : h1 = h := by rw [e1]; unfold k_beat; rw [if_neg q0, if_neg q1]
      have q1' : ¬ s_md h c (nW h) ≤ h 63 1 := by rw [← de, ← b1]; exact q1
      unfold r_beat rmBe kmBe
      rw [e, n5, if_neg q0, if_neg q1, if_neg q0', if_neg q1', if_neg q0', if_neg q1']
      exact ⟨rfl, hE⟩

