theorem shl_g {x y : Int32} {n w : Nat} (hn : (y.toBitVec.smod 32).toNat = n) (hw : w < 32) : (x <<< y).toBitVec.getLsbD w = (decide (n ≤ w) && x.toBitVec.getLsbD (w - n)) := by
  rw [Int32.toBitVec_shiftLeft, BitVec.shiftLeft_eq', hn, BitVec.getLsbD_shiftLeft, decide_eq_true hw, Bool.true_and]
  by_cases c : w < n
  · rw [decide_eq_true c, decide_eq_false (by omega : ¬ n ≤ w)]; rfl
  · rw [decide_eq_false c, decide_eq_true (by omega : n ≤ w)]; rfl
theorem shr_g {x y : Int32} {n w : Nat} (hn : (y.toBitVec.smod 32).toNat = n) (hw : w + n < 32) : (x >>> y).toBitVec.getLsbD w = x.toBitVec.getLsbD (w + n) := by
  rw [Int32.toBitVec_shiftRight, BitVec.sshiftRight_eq', hn, BitVec.getLsbD_sshiftRight, if_pos (by omega), Nat.add_comm n w]
  have e : decide (32 ≤ w) = false := decide_eq_false (by omega)
  rw [e]
  rfl
theorem mv_get {x k : Int32} (hk : B k (-11) 11) {w : Nat} (hw : w < 12) : (z_mv x k).toBitVec.getLsbD w = if 0 ≤ k.toInt then (decide (k.toInt.toNat ≤ w) && x.toBitVec.getLsbD (w - k.toInt.toNat)) else x.toBitVec.getLsbD (w + (-k.toInt).toNat) := by
  have k1 := hk.1
  have k2 := hk.2
  rcases (show k.toInt = 0 ∨ k.toInt = 1 ∨ k.toInt = 2 ∨ k.toInt = 3 ∨ k.toInt = 4 ∨ k.toInt = 5 ∨ k.toInt = 6 ∨ k.toInt = 7 ∨ k.toInt = 8 ∨ k.toInt = 9 ∨ k.toInt = 10 ∨ k.toInt = 11 ∨ k.toInt = -1 ∨ k.toInt = -2 ∨ k.toInt = -3 ∨ k.toInt = -4 ∨ k.toInt = -5 ∨ k.toInt = -6 ∨ k.toInt = -7 ∨ k.toInt = -8 ∨ k.toInt = -9 ∨ k.toInt = -10 ∨ k.toInt = -11 by omega) with q | q | q | q | q | q | q | q | q | q | q | q | q | q | q | q | q | q | q | q | q | q | q
  · have e : k = 0 := Int32.toInt_inj.mp (by rw [q]; decide)
    subst e
    unfold z_mv
    rw [if_neg (by decide), shl_g (n := 0) (by decide) (by omega), q, if_pos (by decide)]
    rfl
  · have e : k = 1 := Int32.toInt_inj.mp (by rw [q]; decide)
    subst e
    unfold z_mv
    rw [if_neg (by decide), shl_g (n := 1) (by decide) (by omega), q, if_pos (by decide)]
    rfl
  · have e : k = 2 := Int32.toInt_inj.mp (by rw [q]; decide)
    subst e
    unfold z_mv
    rw [if_neg (by decide), shl_g (n := 2) (by decide) (by omega), q, if_pos (by decide)]
    rfl
  · have e : k = 3 := Int32.toInt_inj.mp (by rw [q]; decide)
    subst e
    unfold z_mv
    rw [if_neg (by decide), shl_g (n := 3) (by decide) (by omega), q, if_pos (by decide)]
    rfl
  · have e : k = 4 := Int32.toInt_inj.mp (by rw [q]; decide)
    subst e
    unfold z_mv
    rw [if_neg (by decide), shl_g (n := 4) (by decide) (by omega), q, if_pos (by decide)]
    rfl
  · have e : k = 5 := Int32.toInt_inj.mp (by rw [q]; decide)
    subst e
    unfold z_mv
    rw [if_neg (by decide), shl_g (n := 5) (by decide) (by omega), q, if_pos (by decide)]
    rfl
  · have e : k = 6 := Int32.toInt_inj.mp (by rw [q]; decide)
    subst e
    unfold z_mv
    rw [if_neg (by decide), shl_g (n := 6) (by decide) (by omega), q, if_pos (by decide)]
    rfl
  · have e : k = 7 := Int32.toInt_inj.mp (by rw [q]; decide)
    subst e
    unfold z_mv
    rw [if_neg (by decide), shl_g (n := 7) (by decide) (by omega), q, if_pos (by decide)]
    rfl
  · have e : k = 8 := Int32.toInt_inj.mp (by rw [q]; decide)
    subst e
    unfold z_mv
    rw [if_neg (by decide), shl_g (n := 8) (by decide) (by omega), q, if_pos (by decide)]
    rfl
  · have e : k = 9 := Int32.toInt_inj.mp (by rw [q]; decide)
    subst e
    unfold z_mv
    rw [if_neg (by decide), shl_g (n := 9) (by decide) (by omega), q, if_pos (by decide)]
    rfl
  · have e : k = 10 := Int32.toInt_inj.mp (by rw [q]; decide)
    subst e
    unfold z_mv
    rw [if_neg (by decide), shl_g (n := 10) (by decide) (by omega), q, if_pos (by decide)]
    rfl
  · have e : k = 11 := Int32.toInt_inj.mp (by rw [q]; decide)
    subst e
    unfold z_mv
    rw [if_neg (by decide), shl_g (n := 11) (by decide) (by omega), q, if_pos (by decide)]
    rfl
  · have e : k = -1 := Int32.toInt_inj.mp (by rw [q]; decide)
    subst e
    unfold z_mv
    rw [if_pos (by decide), shr_g (n := 1) (by decide) (by omega), q, if_neg (by decide)]
    rfl
  · have e : k = -2 := Int32.toInt_inj.mp (by rw [q]; decide)
    subst e
    unfold z_mv
    rw [if_pos (by decide), shr_g (n := 2) (by decide) (by omega), q, if_neg (by decide)]
    rfl
  · have e : k = -3 := Int32.toInt_inj.mp (by rw [q]; decide)
    subst e
    unfold z_mv
    rw [if_pos (by decide), shr_g (n := 3) (by decide) (by omega), q, if_neg (by decide)]
    rfl
  · have e : k = -4 := Int32.toInt_inj.mp (by rw [q]; decide)
    subst e
    unfold z_mv
    rw [if_pos (by decide), shr_g (n := 4) (by decide) (by omega), q, if_neg (by decide)]
    rfl
  · have e : k = -5 := Int32.toInt_inj.mp (by rw [q]; decide)
    subst e
    unfold z_mv
    rw [if_pos (by decide), shr_g (n := 5) (by decide) (by omega), q, if_neg (by decide)]
    rfl
  · have e : k = -6 := Int32.toInt_inj.mp (by rw [q]; decide)
    subst e
    unfold z_mv
    rw [if_pos (by decide), shr_g (n := 6) (by decide) (by omega), q, if_neg (by decide)]
    rfl
  · have e : k = -7 := Int32.toInt_inj.mp (by rw [q]; decide)
    subst e
    unfold z_mv
    rw [if_pos (by decide), shr_g (n := 7) (by decide) (by omega), q, if_neg (by decide)]
    rfl
  · have e : k = -8 := Int32.toInt_inj.mp (by rw [q]; decide)
    subst e
    unfold z_mv
    rw [if_pos (by decide), shr_g (n := 8) (by decide) (by omega), q, if_neg (by decide)]
    rfl
  · have e : k = -9 := Int32.toInt_inj.mp (by rw [q]; decide)
    subst e
    unfold z_mv
    rw [if_pos (by decide), shr_g (n := 9) (by decide) (by omega), q, if_neg (by decide)]
    rfl
  · have e : k = -10 := Int32.toInt_inj.mp (by rw [q]; decide)
    subst e
    unfold z_mv
    rw [if_pos (by decide), shr_g (n := 10) (by decide) (by omega), q, if_neg (by decide)]
    rfl
  · have e : k = -11 := Int32.toInt_inj.mp (by rw [q]; decide)
    subst e
    unfold z_mv
    rw [if_pos (by decide), shr_g (n := 11) (by decide) (by omega), q, if_neg (by decide)]
    rfl
theorem get_bit (x : Int32) {w : Nat} (hw : w < 12) : x.toBitVec.getLsbD w = true ↔ ¬ x >>> (nI w &&& 31) &&& 1 = 0 := by
  rw [bit_get x hw]
  cases x.toBitVec.getLsbD w with
  | true => exact ⟨fun _ => by decide, fun _ => rfl⟩
  | false => exact ⟨fun z => (by cases z), fun z => absurd rfl z⟩
theorem hi_bit {x : Int32} (h : B x 0 4095) {w : Nat} (hw : 12 ≤ w) : x.toBitVec.getLsbD w = false := by
  have l := (b12_iff x).mp h
  exact Nat.testBit_lt_two_pow (Nat.lt_of_lt_of_le l (Nat.pow_le_pow_right (n := 2) (by decide) hw))
theorem sub_bit {x a : Int32} (hs : x &&& a = x) {w : Nat} (hb : x.toBitVec.getLsbD w = true) : a.toBitVec.getLsbD w = true := by
  rw [← hs, Int32.toBitVec_and, BitVec.getLsbD_and, Bool.and_eq_true] at hb
  exact hb.2
/-- a bit of the moved chord is a bit of the chord -/
theorem mv_from {x k : Int32} (hx : B x 0 4095) (hk : B k (-11) 11) {w : Nat} (hw : w < 12) (hb : (z_mv x k).toBitVec.getLsbD w = true) : ∃ u : Nat, u < 12 ∧ (u : Int) + k.toInt = (w : Int) ∧ x.toBitVec.getLsbD u = true := by
  have k1 := hk.1
  have k2 := hk.2
  rw [mv_get hk hw] at hb
  by_cases c : 0 ≤ k.toInt
  · rw [if_pos c, Bool.and_eq_true, decide_eq_true_eq] at hb
    exact ⟨w - k.toInt.toNat, by omega, by omega, hb.2⟩
  · rw [if_neg c] at hb
    by_cases d : w + (-k.toInt).toNat < 12
    · exact ⟨w + (-k.toInt).toNat, d, by omega, hb⟩
    · rw [hi_bit hx (by omega)] at hb; cases hb
theorem mv_to {x k : Int32} (hk : B k (-11) 11) {u w : Nat} (hw : w < 12) (e : (u : Int) + k.toInt = (w : Int)) (hb : x.toBitVec.getLsbD u = true) : (z_mv x k).toBitVec.getLsbD w = true := by
  rw [mv_get hk hw]
  by_cases c : 0 ≤ k.toInt
  · rw [if_pos c, decide_eq_true (show k.toInt.toNat ≤ w by omega), show w - k.toInt.toNat = u by omega, hb]; rfl
  · rw [if_neg c, show w + (-k.toInt).toNat = u by omega]; exact hb
theorem in_bit {a k : Int32} {n : Nat} (hk : B k (-11) 11) (hn : n ≤ 12) (hg : ¬ s_in a k (nI n - 1) 12 = 0) {u : Nat} (hu : u < 12) (hb : a.toBitVec.getLsbD u = true) : 0 ≤ (u : Int) + k.toInt ∧ (u : Int) + k.toInt < (n : Int) := by
  have k1 := hk.1
  have k2 := hk.2
  have z := (s_in_all 12).mp hg u hu ((get_bit a hu).mp hb)
  have e1 : (1 : Int32).toInt = 1 := by decide
  have e0 : (0 : Int32).toInt = 0 := by decide
  have en := nI_toInt (show n < 2 ^ 31 by omega)
  have eu := nI_toInt (show u < 2 ^ 31 by omega)
  have es := w_sub (x := nI n) (y := 1) (by omega) (by omega)
  have ea := w_add (x := nI u) (y := k) (by omega) (by omega)
  have y := z_wi_B (⟨Int.le_refl _, Int.le_refl _⟩ : B 0 (0 : Int32).toInt (0 : Int32).toInt) (⟨Int.le_refl _, Int.le_refl _⟩ : B (nI n - 1) (nI n - 1).toInt (nI n - 1).toInt) z
  have y1 := y.1
  have y2 := y.2
  omega
