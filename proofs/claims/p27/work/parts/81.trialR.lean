theorem dv10 (x : Int32) : (x / 10).toInt = x.toInt.tdiv 10 ∧ (x / 10 * 10).toInt = x.toInt.tdiv 10 * 10 := by
  have e10 : (10 : Int32).toInt = 10 := by decide
  have h1 := Int32.le_toInt x
  have h2 := Int32.toInt_lt x
  have b : -214748365 ≤ x.toInt.tdiv 10 ∧ x.toInt.tdiv 10 ≤ 214748364 ∧ -2147483648 ≤ x.toInt.tdiv 10 * 10 ∧ x.toInt.tdiv 10 * 10 ≤ 2147483647 := by
    rcases Int.le_total 0 x.toInt with q | q
    · rw [Int.tdiv_eq_ediv_of_nonneg q]
      omega
    · have e : x.toInt.tdiv 10 = -((-x.toInt) / 10) := by
        rw [← Int.tdiv_eq_ediv_of_nonneg (by omega : 0 ≤ -x.toInt), Int.neg_tdiv, Int.neg_neg]
      rw [e]
      omega
  have e1 : (x / 10).toInt = x.toInt.tdiv 10 := by
    rw [Int32.toInt_div, e10]
    exact Int.bmod_eq_of_le (by omega) (by omega)
  refine ⟨e1, ?_⟩
  rw [Int32.toInt_mul, e1, e10]
  exact Int.bmod_eq_of_le (by omega) (by omega)
theorem xor10 (x : Int32) : (0 ≤ x ^^^ 10) ↔ 0 ≤ x := by
  have e : ∀ y : Int32, (0 ≤ y) ↔ y.toBitVec.msb = false := fun y => by
    have e0 : (0 : Int32).toInt = 0 := by decide
    rw [Int32.le_iff_toInt_le, e0]
    show 0 ≤ y.toBitVec.toInt ↔ _
    rw [BitVec.msb_eq_toInt, decide_eq_false_iff_not]
    omega
  rw [e, e, Int32.toBitVec_xor, BitVec.msb_xor]
  have m : (10 : Int32).toBitVec.msb = false := by decide
  rw [m, Bool.xor_false]
theorem fd10 (x : Int32) : z_fd x 10 = z_dn x 10 := by
  obtain ⟨d1, d2⟩ := dv10 x
  have e0 : (0 : Int32).toInt = 0 := by decide
  have h1 := Int32.le_toInt x
  have h2 := Int32.toInt_lt x
  have hr : -10 < x.toInt - x.toInt.tdiv 10 * 10 ∧ x.toInt - x.toInt.tdiv 10 * 10 < 10 ∧ (0 ≤ x.toInt → 0 ≤ x.toInt - x.toInt.tdiv 10 * 10) ∧ (x.toInt ≤ 0 → x.toInt - x.toInt.tdiv 10 * 10 ≤ 0) := by
    rcases Int.le_total 0 x.toInt with q | q
    · rw [Int.tdiv_eq_ediv_of_nonneg q]
      omega
    · have e : x.toInt.tdiv 10 = -((-x.toInt) / 10) := by
        rw [← Int.tdiv_eq_ediv_of_nonneg (by omega : 0 ≤ -x.toInt), Int.neg_tdiv, Int.neg_neg]
      rw [e]
      omega
  have es := w_sub (x := x) (y := x / 10 * 10) (by rw [d2]; omega) (by rw [d2]; omega)
  rw [d2] at es
  unfold z_fd z_dn
  by_cases q : 0 ≤ x
  · have q2 := w_le q
    rw [if_pos ((xor10 x).mpr q), if_pos (Int32.le_iff_toInt_le.mpr (by omega))]
  · rw [if_neg (fun z => q ((xor10 x).mp z))]
    have q2 := w_lt (Int32.not_le.mp q)
    by_cases c : x / 10 * 10 = x
    · have c2 := congrArg Int32.toInt c
      rw [if_pos c, if_pos (Int32.le_iff_toInt_le.mpr (by omega))]
    · rw [if_neg c]
      have c2 : x.toInt.tdiv 10 * 10 ≠ x.toInt := fun z => c (Int32.toInt_inj.mp (by omega))
      rw [if_neg (fun z => by have := w_le z; omega)]
theorem off_eq {h : Hp} {w : Nat} (hW : RW1 h w) (p : Int32) : o_off h w p = o_moff h w p := by
  obtain ⟨-, -, z3, -, z5, z6, -, -⟩ := hW
  unfold o_off o_bent o_moff
  rw [z3, z5, z6, fd10]
theorem drawn_eq {h : Hp} (c : Int32) : ∀ m, (∀ w, w < m → RW1 h w) → s_drawn h c (h 4 6) m = s_md h c m
  | 0, _ => rfl
  | m + 1, hW => by
    obtain ⟨-, z2, -, -, -, -, z7, -⟩ := hW m (by omega)
    have ih := drawn_eq c m (fun w hw => hW w (by omega))
    unfold s_drawn s_md
    rw [ih, z2, z7]
    rcases bit_01 c (nI m &&& 31) with q | q
    · rw [if_pos q, if_neg (show ¬ c >>> (nI m &&& 31) &&& 1 = 1 by rw [q]; decide)]
      by_cases y : h 70 m = 0
      · rw [if_pos y, if_pos y, Int32.add_zero]
      · rw [if_neg y, if_neg y]
    · rw [if_neg (show ¬ c >>> (nI m &&& 31) &&& 1 = 0 by rw [q]; decide), if_pos q]
theorem s_ms_nn (h : Hp) (c p : Int32) : ∀ m, 0 ≤ s_ms h c p m
  | 0 => by unfold s_ms; decide
  | m + 1 => by
    have ih := s_ms_nn h c p m
    unfold s_ms
    split
    · split
      · exact ih
      · rename_i q; exact Int32.le_trans ih (Int32.le_of_lt (Int32.not_le.mp q))
    · first | exact ih | (rw [if_pos ih]; exact ih)
theorem stray_eq {h : Hp} (c p : Int32) : ∀ m, (∀ w, w < m → RW1 h w) → s_stray h c p m = s_ms h c p m
  | 0, _ => rfl
  | m + 1, hW => by
    have ih := stray_eq c p m (fun w hw => hW w (by omega))
    have eo := off_eq (hW m (by omega)) p
    have ea : z_abs (o_moff h m p) = z_sz (o_moff h m p) := rfl
    unfold s_stray s_ms
    rw [ih, eo, ea]
    rcases bit_01 c (nI m &&& 31) with q | q
    · rw [if_pos q, if_neg (show ¬ c >>> (nI m &&& 31) &&& 1 = 1 by rw [q]; decide), if_pos (s_ms_nn h c p m)]
    · rw [if_neg (show ¬ c >>> (nI m &&& 31) &&& 1 = 0 by rw [q]; decide), if_pos q]
      unfold z_max
      by_cases y : s_ms h c p m < z_sz (o_moff h m p)
      · rw [if_pos y, if_neg (Int32.not_le.mpr y)]
      · rw [if_neg y, if_pos (Int32.not_lt.mp y)]
theorem md_nn {h : Hp} (c : Int32) : ∀ m, m ≤ 12 → (∀ w, w < m → RW1 h w) → 0 ≤ (s_md h c m).toInt ∧ (s_md h c m).toInt ≤ 9 * (m : Int)
  | 0, _, _ => by unfold s_md; decide
  | m + 1, hm, hW => by
    obtain ⟨-, z2, -, -, -, -, z7, z8⟩ := hW m (by omega)
    have ih := md_nn c m (by omega) (fun w hw => hW w (by omega))
    rw [z2] at z8
    have z81 := z8.1
    have z82 := z8.2
    have e2 : (2 : Int32).toInt = 2 := by decide
    have e0 : (0 : Int32).toInt = 0 := by decide
    unfold s_md
    split
    · rw [w_add (by omega) (by omega)]; omega
    · split
      · rw [Int32.add_zero]; omega
      · have ed : (h 65 m / 2).toInt = (h 65 m).toInt / 2 := by
          rw [Int32.toInt_div, e2, Int.tdiv_eq_ediv_of_nonneg (by omega)]
          exact Int.bmod_eq_of_le (by omega) (by omega)
        rw [w_add (by omega) (by omega), ed]
        omega
theorem bo_eq {h : Hp} (hB : Bx h) (hE : RE h) (q : Int32) : r_boil h (nW h) q = rmBo h q := by
  obtain ⟨⟨b0, b1, b2, b3, b4⟩, hW, -⟩ := hE
  have en : (h 63 5).toNatClampNeg = nW h := by unfold nW; rw [hW.1]
  unfold r_boil rmBo
  rw [b0, b1, b2, b3, b4, drawn_eq 0 (nW h) hW.2.1, en]
theorem to_eq {h : Hp} (hB : Bx h) (hE : RE h) (w q : Int32) : r_told h w q = rmTo h w q := by
  obtain ⟨-, hW, -⟩ := hE
  have l12 : nW h ≤ 12 := (B.nI (u := 12) (hB 4 7)).2
  unfold r_told rmTo
  by_cases q0 : z_has w (h 4 7) = 0
  · have q0' : z_has w (h 63 5) = 0 := by rw [← hW.1]; exact q0
    rw [if_pos q0, if_pos q0']
  · have q0' : ¬ z_has w (h 63 5) = 0 := by rw [← hW.1]; exact q0
    obtain ⟨j, hj, rfl⟩ := z_hask (B.nI (u := 12) (hB 4 7)).1 (B.nI (u := 12) (hB 4 7)).2 (by decide) q0
    have hjn : j < nW h := hj
    have ej := nI_clamp (show j < 2 ^ 31 by omega)
    obtain ⟨z1, z2, z3, z4, z5, z6, z7, z8⟩ := hW.2.1 j hj
    rw [if_neg q0, if_neg q0', ej, z1, z2, z3, z4, z5, z6, z7]
    have zl : (if h 70 j = 0 then (0 : Int32) else 1) = h 70 j := by
      rcases bit_01 (h 4 6) (nI j &&& 31) with y | y
      · rw [← z7, y, if_pos rfl]
      · rw [← z7, y, if_neg (by decide)]
    rw [zl]
    by_cases q1 : z_wi q 0 6 = 0
    · rw [if_pos q1]
      have n : ∀ k : Int32, z_wi k 0 6 ≠ 0 → ¬ q = k := fun k hk e => hk (by rw [← e]; exact q1)
      rw [if_neg (n 0 (by decide)), if_neg (n 1 (by decide)), if_neg (n 2 (by decide)), if_neg (n 3 (by decide)), if_neg (n 4 (by decide)), if_neg (n 5 (by decide)), if_neg (n 6 (by decide))]
    · rw [if_neg q1]
      have p := z_wi_B (by decide : B 0 0 0) (by decide : B 6 6 6) q1
      by_cases c0 : q = 0
      · rw [if_pos c0, if_pos c0]
      rw [if_neg c0, if_neg c0]
      have p1 : B q 1 6 := R_neL p (by decide : B 0 0 0) c0 (by decide)
      by_cases c1 : q = 1
      · rw [if_pos c1, if_pos c1]
      rw [if_neg c1, if_neg c1]
      have p2 : B q 2 6 := R_neL p1 (by decide : B 1 1 1) c1 (by decide)
      by_cases c2 : q = 2
      · rw [if_pos c2, if_pos c2]
      rw [if_neg c2, if_neg c2]
      have p3 : B q 3 6 := R_neL p2 (by decide : B 2 2 2) c2 (by decide)
      by_cases c3 : q = 3
      · rw [if_pos c3, if_pos c3]
      rw [if_neg c3, if_neg c3]
      have p4 : B q 4 6 := R_neL p3 (by decide : B 3 3 3) c3 (by decide)
      by_cases c4 : q = 4
      · rw [if_pos c4, if_pos c4]
      rw [if_neg c4, if_neg c4]
      have p5 : B q 5 6 := R_neL p4 (by decide : B 4 4 4) c4 (by decide)
      by_cases c5 : q = 5
      · rw [if_pos c5, if_pos c5]
      rw [if_neg c5, if_neg c5]
      have p6 : B q 6 6 := R_neL p5 (by decide : B 5 5 5) c5 (by decide)
      have c6 : q = 6 := D_eq p6 (by decide)
      rw [if_pos c6]
theorem pi_eq {h : Hp} (hB : Bx h) (hE : RE h) (w p : Int32) : r_pitch h w p = rmPi h w p := by
  obtain ⟨-, hW, -⟩ := hE
  have l12 : nW h ≤ 12 := (B.nI (u := 12) (hB 4 7)).2
  unfold r_pitch rmPi
  by_cases q0 : z_has w (h 4 7) = 0
  · have q0' : z_has w (h 63 5) = 0 := by rw [← hW.1]; exact q0
    rw [if_pos q0, if_pos q0']
  · have q0' : ¬ z_has w (h 63 5) = 0 := by rw [← hW.1]; exact q0
    obtain ⟨j, hj, rfl⟩ := z_hask (B.nI (u := 12) (hB 4 7)).1 (B.nI (u := 12) (hB 4 7)).2 (by decide) q0
    have hjn : j < nW h := hj
    have ej := nI_clamp (show j < 2 ^ 31 by omega)
    have z := hW.2.1 j hj
    rw [if_neg q0, if_neg q0', ej, off_eq z, z.1]
