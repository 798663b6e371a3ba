theorem shl_g {x y : Int32} {n w : Nat} (hn : (y.toBitVec.smod 32).toNat = n) (hw : w < 32) : (x <<< y).toBitVec.getLsbD w = (decide (n ≤ w) && x.toBitVec.getLsbD (w - n)) := by
  rw [Int32.toBitVec_shiftLeft, BitVec.shiftLeft_eq', hn, BitVec.getLsbD_shiftLeft, decide_eq_true hw, Bool.true_and]
  by_cases c : w < n
  · rw [decide_eq_true c, decide_eq_false (by omega : ¬ n ≤ w)]; rfl
  · rw [decide_eq_false c, decide_eq_true (by omega : n ≤ w)]; rfl
theorem shr_g {x y : Int32} {n w : Nat} (hn : (y.toBitVec.smod 32).toNat = n) (hw : w + n < 32) : (x >>> y).toBitVec.getLsbD w = x.toBitVec.getLsbD (w + n) := by
  rw [Int32.toBitVec_shiftRight, BitVec.sshiftRight_eq', hn, BitVec.getLsbD_sshiftRight, if_pos (by omega), Nat.add_comm n w]
  have e : decide (32 ≤ w) = false := decide_eq_false (by omega)
  rw [e]
  rfl
theorem mv_get {x k : Int32} (hk : B k (-11) 11) {w : Nat} (hw : w < 12) : (z_mv x k).toBitVec.getLsbD w = if 0 ≤ k.toInt then (decide (k.toInt.toNat ≤ w) && x.toBitVec.getLsbD (w - k.toInt.toNat)) else x.toBitVec.getLsbD (w + (-k.toInt).toNat) := by
  have k1 := hk.1
  have k2 := hk.2
  rcases (show k.toInt = 0 ∨ k.toInt = 1 ∨ k.toInt = 2 ∨ k.toInt = 3 ∨ k.toInt = 4 ∨ k.toInt = 5 ∨ k.toInt = 6 ∨ k.toInt = 7 ∨ k.toInt = 8 ∨ k.toInt = 9 ∨ k.toInt = 10 ∨ k.toInt = 11 ∨ k.toInt = -1 ∨ k.toInt = -2 ∨ k.toInt = -3 ∨ k.toInt = -4 ∨ k.toInt = -5 ∨ k.toInt = -6 ∨ k.toInt = -7 ∨ k.toInt = -8 ∨ k.toInt = -9 ∨ k.toInt = -10 ∨ k.toInt = -11 by omega) with q | q | q | q | q | q | q | q | q | q | q | q | q | q | q | q | q | q | q | q | q | q | q
  · have e : k = 0 := Int32.toInt_inj.mp (by rw [q]; decide)
    subst e
    unfold z_mv
    rw [if_neg (by decide), shl_g (n := 0) (by decide) (by omega), q, if_pos (by decide)]
    rfl
  · have e : k = 1 := Int32.toInt_inj.mp (by rw [q]; decide)
    subst e
    unfold z_mv
    rw [if_neg (by decide), shl_g (n := 1) (by decide) (by omega), q, if_pos (by decide)]
    rfl
  · have e : k = 2 := Int32.toInt_inj.mp (by rw [q]; decide)
    subst e
    unfold z_mv
    rw [if_neg (by decide), shl_g (n := 2) (by decide) (by omega), q, if_pos (by decide)]
    rfl
  · have e : k = 3 := Int32.toInt_inj.mp (by rw [q]; decide)
    subst e
    unfold z_mv
    rw [if_neg (by decide), shl_g (n := 3) (by decide) (by omega), q, if_pos (by decide)]
    rfl
  · have e : k = 4 := Int32.toInt_inj.mp (by rw [q]; decide)
    subst e
    unfold z_mv
    rw [if_neg (by decide), shl_g (n := 4) (by decide) (by omega), q, if_pos (by decide)]
    rfl
  · have e : k = 5 := Int32.toInt_inj.mp (by rw [q]; decide)
    subst e
    unfold z_mv
    rw [if_neg (by decide), shl_g (n := 5) (by decide) (by omega), q, if_pos (by decide)]
    rfl
  · have e : k = 6 := Int32.toInt_inj.mp (by rw [q]; decide)
    subst e
    unfold z_mv
    rw [if_neg (by decide), shl_g (n := 6) (by decide) (by omega), q, if_pos (by decide)]
    rfl
  · have e : k = 7 := Int32.toInt_inj.mp (by rw [q]; decide)
    subst e
    unfold z_mv
    rw [if_neg (by decide), shl_g (n := 7) (by decide) (by omega), q, if_pos (by decide)]
    rfl
  · have e : k = 8 := Int32.toInt_inj.mp (by rw [q]; decide)
    subst e
    unfold z_mv
    rw [if_neg (by decide), shl_g (n := 8) (by decide) (by omega), q, if_pos (by decide)]
    rfl
  · have e : k = 9 := Int32.toInt_inj.mp (by rw [q]; decide)
    subst e
    unfold z_mv
    rw [if_neg (by decide), shl_g (n := 9) (by decide) (by omega), q, if_pos (by decide)]
    rfl
  · have e : k = 10 := Int32.toInt_inj.mp (by rw [q]; decide)
    subst e
    unfold z_mv
    rw [if_neg (by decide), shl_g (n := 10) (by decide) (by omega), q, if_pos (by decide)]
    rfl
  · have e : k = 11 := Int32.toInt_inj.mp (by rw [q]; decide)
    subst e
    unfold z_mv
    rw [if_neg (by decide), shl_g (n := 11) (by decide) (by omega), q, if_pos (by decide)]
    rfl
  · have e : k = -1 := Int32.toInt_inj.mp (by rw [q]; decide)
    subst e
    unfold z_mv
    rw [if_pos (by decide), shr_g (n := 1) (by decide) (by omega), q, if_neg (by decide)]
    rfl
  · have e : k = -2 := Int32.toInt_inj.mp (by rw [q]; decide)
    subst e
    unfold z_mv
    rw [if_pos (by decide), shr_g (n := 2) (by decide) (by omega), q, if_neg (by decide)]
    rfl
  · have e : k = -3 := Int32.toInt_inj.mp (by rw [q]; decide)
    subst e
    unfold z_mv
    rw [if_pos (by decide), shr_g (n := 3) (by decide) (by omega), q, if_neg (by decide)]
    rfl
  · have e : k = -4 := Int32.toInt_inj.mp (by rw [q]; decide)
    subst e
    unfold z_mv
    rw [if_pos (by decide), shr_g (n := 4) (by decide) (by omega), q, if_neg (by decide)]
    rfl
  · have e : k = -5 := Int32.toInt_inj.mp (by rw [q]; decide)
    subst e
    unfold z_mv
    rw [if_pos (by decide), shr_g (n := 5) (by decide) (by omega), q, if_neg (by decide)]
    rfl
  · have e : k = -6 := Int32.toInt_inj.mp (by rw [q]; decide)
    subst e
    unfold z_mv
    rw [if_pos (by decide), shr_g (n := 6) (by decide) (by omega), q, if_neg (by decide)]
    rfl
  · have e : k = -7 := Int32.toInt_inj.mp (by rw [q]; decide)
    subst e
    unfold z_mv
    rw [if_pos (by decide), shr_g (n := 7) (by decide) (by omega), q, if_neg (by decide)]
    rfl
  · have e : k = -8 := Int32.toInt_inj.mp (by rw [q]; decide)
    subst e
    unfold z_mv
    rw [if_pos (by decide), shr_g (n := 8) (by decide) (by omega), q, if_neg (by decide)]
    rfl
  · have e : k = -9 := Int32.toInt_inj.mp (by rw [q]; decide)
    subst e
    unfold z_mv
    rw [if_pos (by decide), shr_g (n := 9) (by decide) (by omega), q, if_neg (by decide)]
    rfl
  · have e : k = -10 := Int32.toInt_inj.mp (by rw [q]; decide)
    subst e
    unfold z_mv
    rw [if_pos (by decide), shr_g (n := 10) (by decide) (by omega), q, if_neg (by decide)]
    rfl
  · have e : k = -11 := Int32.toInt_inj.mp (by rw [q]; decide)
    subst e
    unfold z_mv
    rw [if_pos (by decide), shr_g (n := 11) (by decide) (by omega), q, if_neg (by decide)]
    rfl
theorem get_bit (x : Int32) {w : Nat} (hw : w < 12) : x.toBitVec.getLsbD w = true ↔ ¬ x >>> (nI w &&& 31) &&& 1 = 0 := by
  rw [bit_get x hw]
  cases x.toBitVec.getLsbD w with
  | true => exact ⟨fun _ => by decide, fun _ => rfl⟩
  | false => exact ⟨fun z => (by cases z), fun z => absurd rfl z⟩
theorem hi_bit {x : Int32} (h : B x 0 4095) {w : Nat} (hw : 12 ≤ w) : x.toBitVec.getLsbD w = false := by
  have l := (b12_iff x).mp h
  exact Nat.testBit_lt_two_pow (Nat.lt_of_lt_of_le l (Nat.pow_le_pow_right (n := 2) (by decide) hw))
theorem sub_bit {x a : Int32} (hs : x &&& a = x) {w : Nat} (hb : x.toBitVec.getLsbD w = true) : a.toBitVec.getLsbD w = true := by
  rw [← hs, Int32.toBitVec_and, BitVec.getLsbD_and, Bool.and_eq_true] at hb
  exact hb.2
/-- a bit of the moved chord is a bit of the chord -/
theorem mv_from {x k : Int32} (hx : B x 0 4095) (hk : B k (-11) 11) {w : Nat} (hw : w < 12) (hb : (z_mv x k).toBitVec.getLsbD w = true) : ∃ u : Nat, u < 12 ∧ (u : Int) + k.toInt = (w : Int) ∧ x.toBitVec.getLsbD u = true := by
  have k1 := hk.1
  have k2 := hk.2
  rw [mv_get hk hw] at hb
  by_cases c : 0 ≤ k.toInt
  · rw [if_pos c, Bool.and_eq_true, decide_eq_true_eq] at hb
    exact ⟨w - k.toInt.toNat, by omega, by omega, hb.2⟩
  · rw [if_neg c] at hb
    by_cases d : w + (-k.toInt).toNat < 12
    · exact ⟨w + (-k.toInt).toNat, d, by omega, hb⟩
    · rw [hi_bit hx (by omega)] at hb; cases hb
theorem mv_to {x k : Int32} (hk : B k (-11) 11) {u w : Nat} (hw : w < 12) (e : (u : Int) + k.toInt = (w : Int)) (hb : x.toBitVec.getLsbD u = true) : (z_mv x k).toBitVec.getLsbD w = true := by
  rw [mv_get hk hw]
  by_cases c : 0 ≤ k.toInt
  · rw [if_pos c, decide_eq_true (show k.toInt.toNat ≤ w by omega), show w - k.toInt.toNat = u by omega, hb]; rfl
  · rw [if_neg c, show w + (-k.toInt).toNat = u by omega]; exact hb
theorem in_bit {a k : Int32} {n : Nat} (hk : B k (-11) 11) (hn : n ≤ 12) (hg : ¬ s_in a k (nI n - 1) 12 = 0) {u : Nat} (hu : u < 12) (hb : a.toBitVec.getLsbD u = true) : 0 ≤ (u : Int) + k.toInt ∧ (u : Int) + k.toInt < (n : Int) := by
  have k1 := hk.1
  have k2 := hk.2
  have z := (s_in_all 12).mp hg u hu ((get_bit a hu).mp hb)
  have e1 : (1 : Int32).toInt = 1 := by decide
  have e0 : (0 : Int32).toInt = 0 := by decide
  have en := nI_toInt (show n < 2 ^ 31 by omega)
  have eu := nI_toInt (show u < 2 ^ 31 by omega)
  have es := w_sub (x := nI n) (y := 1) (by omega) (by omega)
  have ea := w_add (x := nI u) (y := k) (by omega) (by omega)
  have y := z_wi_B (⟨Int.le_refl _, Int.le_refl _⟩ : B 0 (0 : Int32).toInt (0 : Int32).toInt) (⟨Int.le_refl _, Int.le_refl _⟩ : B (nI n - 1) (nI n - 1).toInt (nI n - 1).toInt) z
  have y1 := y.1
  have y2 := y.2
  omega
/-- a chord that goes: it sounds where it sounded, and its lowest whistle is there -/
theorem mv_ne {x a k : Int32} {n : Nat} (hx : B x 0 4095) (hs : x &&& a = x) (hk : B k (-11) 11) (hn : n ≤ 12) (hg : ¬ s_in a k (nI n - 1) 12 = 0) : z_mv x k = 0 ↔ x = 0 := by
  constructor
  · intro z
    refine Decidable.byContradiction (fun y => ?_)
    obtain ⟨l, g, hl, -, -, -, bl, -⟩ := gs_of hx y
    have gb := (get_bit x hl).mpr (by rw [bl]; decide)
    obtain ⟨i1, i2⟩ := in_bit hk hn hg hl (sub_bit hs gb)
    have t := mv_to (w := ((l : Int) + k.toInt).toNat) hk (by omega) (by omega) gb
    rw [z] at t
    have f : (0 : Int32).toBitVec.getLsbD ((l : Int) + k.toInt).toNat = false := by
      show (0#32).getLsbD _ = false
      rw [BitVec.getLsbD_zero]
    rw [f] at t
    cases t
  · intro z
    rw [z]
    exact z_mv_0 k
theorem lw_n {x a k : Int32} {n : Nat} (hx : B x 0 4095) (hs : x &&& a = x) (hk : B k (-11) 11) (hn : n ≤ 12) (hg : ¬ s_in a k (nI n - 1) 12 = 0) (hc : B (z_mv x k) 0 4095) (h0 : ¬ z_mv x k = 0) : lw (z_mv x k) < n := by
  obtain ⟨el, hl⟩ := lw_of hc h0
  have b := (lw_bits hc h0).1
  obtain ⟨u, hu, e, ub⟩ := mv_from hx hk hl ((get_bit _ hl).mpr (by rw [b]; decide))
  have y := (in_bit hk hn hg hu (sub_bit hs ub)).2
  omega
def rm_bg (h : Hp) (t k p s l q : Int32) : Int32 := if z_has t (h 63 23) = 0 then -1000 else if z_wi k (-11) 11 = 0 then -1000 else if z_wi p 0 (h 63 3) = 0 then -1000 else if z_sht s l = 0 then -1000 else if (if z_wi q 0 2 = 0 then z_wi q 20 (19 + h 63 5) else 1) = 0 then -1000 else if inM h t k = 0 then -1002 else if h 92 s.toNatClampNeg = l then 0 else if h 92 s.toNatClampNeg = -4 then -1010 - 1 else -1010 - 3
theorem tld_eq {w q : Int32} (hw : B w 0 12) : z_tld w q = if z_wi q 0 2 = 0 then z_wi q 20 (19 + w) else 1 := by
  unfold z_tld
  by_cases c : z_wi q 0 2 = 0
  · rw [if_pos c, if_pos c]
    have h1 := hw.1
    have h2 := hw.2
    have e19 : (19 : Int32).toInt = 19 := by decide
    have e20 : (20 : Int32).toInt = 20 := by decide
    have e0 : (0 : Int32).toInt = 0 := by decide
    have ea := w_add (x := 19) (y := w) (by omega) (by omega)
    unfold z_wi
    by_cases d : q < 20
    · rw [if_pos d, if_pos d]
    · rw [if_neg d, if_neg d]
      have d1 := w_nlt d
      have l := Int32.toInt_lt q
      have es := w_sub (x := q) (y := 20) (by omega) (by omega)
      unfold z_has
      rw [if_neg (fun z => by have := w_lt z; omega)]
      by_cases f : w ≤ q - 20
      · have f1 := w_le f
        rw [if_pos f, if_pos (Int32.lt_iff_toInt_lt.mpr (by omega))]
      · have f1 := w_lt (Int32.not_le.mp f)
        rw [if_neg f, if_neg (fun z => by have := w_lt z; omega)]
  · rw [if_neg c, if_neg c]
theorem sht_has (s l : Int32) : z_sht s l = if z_has s 4 = 0 then 0 else z_wi l 0 2 := by
  have e : z_wi s 0 3 = z_has s 4 := z_wi_has (q := s) (n := 4) (by decide)
  unfold z_sht
  rw [e]
  by_cases c : z_has s 4 = 0
  · rw [if_pos c, if_pos c]
  · rw [if_neg c, if_neg c]
    unfold z_wi
    repeat' split
    all_goals first | rfl | contradiction
theorem bg_eq {h : Hp} (hB : Bx h) (hE : RE h) (hT : RTU h) (hS : RSh h) (t k p s l q : Int32) : rm_bg h t k p s l q = r_bg h t k p s l q := by
  obtain ⟨⟨b0, b1, b2, b3, b4⟩, hW, -⟩ := id hE
  unfold rm_bg r_bg
  rw [tld_eq (hB 4 7), hW.1, b3, hT.2.2.1]
  by_cases q4 : (if z_wi q 0 2 = 0 then z_wi q 20 (19 + h 63 5) else 1) = 0
  · rw [if_pos q4, if_pos q4]
    repeat' split
    all_goals rfl
  rw [if_neg q4, if_neg q4]
  by_cases q0 : z_has t (h 63 23) = 0
  · rw [if_pos q0, if_pos q0]
  rw [if_neg q0, if_neg q0]
  by_cases q1 : z_wi k (-11) 11 = 0
  · rw [if_pos q1, if_pos q1]
  rw [if_neg q1, if_neg q1]
  by_cases q2 : z_wi p 0 (h 63 3) = 0
  · rw [if_pos q2, if_pos q2]
  rw [if_neg q2, if_neg q2, sht_has]
  by_cases q3 : z_has s 4 = 0
  · rw [if_pos (show (if z_has s 4 = 0 then 0 else z_wi l 0 2) = 0 by rw [if_pos q3]), if_pos q3]
  rw [if_neg q3, if_neg q3]
  by_cases q5 : z_wi l 0 2 = 0
  · rw [if_pos q5, if_pos q5]
  rw [if_neg q5, if_neg q5]
  have c0 : ¬ z_has t (h 28 2) = 0 := by rw [hT.2.2.1]; exact q0
  rw [((try_eq hB hE hT t k).2 c0 q1).1]
  by_cases q6 : inM h t k = 0
  · rw [if_pos q6, if_pos q6]
  rw [if_neg q6, if_neg q6]
  obtain ⟨j, hj, rfl⟩ := z_hask (x := 4) (m := 4) (N := 4) rfl (Nat.le_refl _) (by decide) q3
  rw [nI_clamp (show j < 2 ^ 31 by omega)]
  obtain ⟨a1, a2, -⟩ := hS j hj
  have bl := z_wi_B (by decide : B 0 0 0) (by decide : B 2 2 2) q5
  have l4 : ¬ l = -4 := fun z => by
    have := bl.1
    rw [z] at this
    exact absurd this (by decide)
  have o10 : ¬ (1 : Int32) = 0 := by decide
  have o30 : ¬ (3 : Int32) = 0 := by decide
  unfold z_fas z_noth
  by_cases d : h 62 j = -1
  · have d2 := a1.mp d
    rw [if_pos d, d2, if_neg (fun z => l4 z.symm), if_pos rfl, if_neg o10, if_neg o10]
  · have d2 : ¬ h 92 j = -4 := fun z => d (a1.mpr z)
    rw [if_neg d, if_pos rfl, (a2 d).2]
    by_cases g : h 92 j = l
    · rw [if_pos g, if_pos g, if_pos rfl]
    · rw [if_neg g, if_neg g, if_neg d2, if_neg o30]
theorem ix_iff {f S : Int32} {i : Nat} (hS : B S 0 60) (hi : i < 24) : z_in (f.toInt64 + (nI i).toInt64) 0 ((S - 1).toInt64) = 0 ↔ z_has (f + nI i) S = 0 := by
  have s1 := hS.1
  have s2 := hS.2
  have f1 := Int32.le_toInt f
  have f2 := Int32.toInt_lt f
  have ei := nI_toInt (show i < 2 ^ 31 by omega)
  have e1 : (1 : Int32).toInt = 1 := by decide
  have e0 : (0 : Int64).toInt = 0 := by decide
  have e0' : (0 : Int32).toInt = 0 := by decide
  have es := w_sub (x := S) (y := 1) (by omega) (by omega)
  have ek : (f.toInt64 + (nI i).toInt64).toInt = f.toInt + (i : Int) := by
    rw [Int64.toInt_add, Int32.toInt_toInt64, Int32.toInt_toInt64, ei]
    exact Int.bmod_eq_of_le (by omega) (by omega)
  constructor
  · intro z
    refine Decidable.byContradiction (fun y => ?_)
    have n := has_n y
    have ef : (f + nI i).toInt = f.toInt + (i : Int) := by
      have b := Int32.toInt_add f (nI i)
      rw [ei] at b
      have d := Int.bmod_def (f.toInt + (i : Int)) (2 ^ 32)
      omega
    have q' : z_in (f.toInt64 + (nI i).toInt64) 0 ((S - 1).toInt64) = 1 := by
      unfold z_in
      rw [if_neg (fun z => by
        rw [lg_cmp_lt, Int64.lt_iff_toInt_lt, ek, e0] at z
        omega), if_neg (fun z => by
        rw [lg_cmp_gt, Int64.lt_iff_toInt_lt, ek, Int32.toInt_toInt64] at z
        omega)]
    rw [q'] at z
    exact absurd z (by decide)
  · intro z
    refine Decidable.byContradiction (fun y => ?_)
    have n := z_in_le y
    rw [ek, e0, Int32.toInt_toInt64] at n
    have ef := w_add (x := f) (y := nI i) (by omega) (by omega)
    have q' : z_has (f + nI i) S = 1 := by
      unfold z_has
      rw [if_neg (fun z => by have := w_lt z; omega), if_neg (fun z => by have := w_le z; omega)]
    rw [q'] at z
    exact absurd z (by decide)
theorem fr_cg {E E' : Nat → Option (Nat → Int32)} : ∀ n, (∀ u, u < n → E u = E' u) → fr E n = fr E' n
  | 0, _ => rfl
  | n + 1, e => by
    have ih := fr_cg n (fun u hu => e u (by omega))
    have en := e n (by omega)
    show (match E n with | none => fr E n | some tr => (match fr E n with | none => some (co n tr, n, tr) | some x => if co n tr < x.1 then some (co n tr, n, tr) else some x)) = (match E' n with | none => fr E' n | some tr => (match fr E' n with | none => some (co n tr, n, tr) | some x => if co n tr < x.1 then some (co n tr, n, tr) else some x))
    rw [en, ih]

set_option maxRecDepth 100000 in
set_option maxHeartbeats 4000000 in
theorem l_idx (L : Nat) (b : Bool) (h : Hp) (n : Nat) (hn : n < 6) (s : Nat) (hs : s < 4) (k p l f q : Int32) (M : Nat) (hM : M ≤ 24) (e73 : h 73 n = nI M) (Q : Pst) : ∀ t i : Nat, i + t = M → (∀ j, j < i → ¬ (¬ h 74 (24 * n + j) = 0 ∧ z_in (f.toInt64 + (nI j).toInt64) 0 ((h 93 s - 1).toInt64) = 0)) → ((∀ j, j < M → ¬ (¬ h 74 (24 * n + j) = 0 ∧ z_in (f.toInt64 + (nI j).toInt64) 0 ((h 93 s - 1).toInt64) = 0)) → EvQ mi_X10_blame 188 [some (.ref 63), some (.int (nI n)), some (.int k), some (.int p), some (.int (nI s)), some (.int l), some (.int f), some (.int q), none, none, none, none, none, none, none] [] (G0 L b) h 0 0 Q) → (∀ j, j < M → (¬ h 74 (24 * n + j) = 0 ∧ z_in (f.toInt64 + (nI j).toInt64) 0 ((h 93 s - 1).toInt64) = 0) → Q (some (.int (-1012))) (G0 L b) h) → EvQ mi_X10_blame 133 [some (.ref 63), some (.int (nI n)), some (.int k), some (.int p), some (.int (nI s)), some (.int l), some (.int f), some (.int q), some (.int (nI i)), none, none, none, none, none, none] [] (G0 L b) h 0 0 Q := by
  intro t
  induction t with
  | zero =>
    intro i hi nb kk kb
    have hi2 : i = M := by omega
    subst hi2
    refine ev_iload rfl rfl rfl ?_
    refine ev_aload_n rfl rfl rfl ?_
    refine ev_getR rfl rfl fl_X10_51 rfl rfl rfl rfl ?_
    refine ev_iload_n rfl rfl rfl ?_
    refine ev_iald rfl rfl rfl (vp_in_nI (by omega) (by decide)) (nI_clamp (by omega)) ?_
    try simp only [e73]
    refine ev_icmp_ge rfl rfl (fun c_141 => ?_) (fun z_ => absurd (Int32.le_refl _) z_)
    exact EvQ.drop 8 (kk nb)
  | succ t ih =>
    intro i hi nb kk kb
    refine ev_iload rfl rfl rfl ?_
    refine ev_aload_n rfl rfl rfl ?_
    refine ev_getR rfl rfl fl_X10_51 rfl rfl rfl rfl ?_
    refine ev_iload_n rfl rfl rfl ?_
    refine ev_iald rfl rfl rfl (vp_in_nI (by omega) (by decide)) (nI_clamp (by omega)) ?_
    try simp only [e73]
    refine ev_icmp_ge rfl rfl (fun z_ => absurd z_ (nI_ge (by omega) (by omega))) (fun c_141 => ?_)
    refine ev_aload_n rfl rfl rfl ?_
    refine ev_iload_n rfl rfl rfl ?_
    refine ev_iload rfl rfl rfl ?_
    refine ev_V2D rfl rfl lk_X10_263 vt_X10_chordAt rfl rfl rfl rfl rfl (c_mchordAt L b h n hn i (by omega)) ?_
    refine ev_if_eq rfl rfl (fun c_151 => ?_) (fun c_151 => ?_)
    · refine ev_iinc (y := 1) rfl rfl rfl (by decide) rfl rfl ?_
      dsimp only [List.set]
      refine ev_goto rfl rfl ?_
      rw [nI_1 i]
      exact ih (i + 1) (by omega) (fun j hj => by
        by_cases e : j = i
        · subst e; exact fun z_ => z_.1 c_151
        · exact nb j (by omega)) kk kb
    · refine ev_iload rfl rfl rfl ?_
      refine ev_i2l rfl rfl ?_
      refine ev_iload rfl rfl rfl ?_
      refine ev_i2l rfl rfl ?_
      refine ev_ladd rfl rfl ?_
      refine ev_lconst (v := 0) rfl rfl rfl ?_
      refine ev_aload_n rfl rfl rfl ?_
      refine ev_getR rfl rfl fl_X10_115 rfl rfl rfl rfl ?_
      refine ev_iload rfl rfl rfl ?_
      refine ev_iald rfl rfl rfl (vp_in_nI (by omega) (by decide)) (nI_clamp (by omega)) ?_
      try simp only [e73]
      refine ev_iconst (v := 1) rfl rfl (by decide) ?_
      refine ev_isub rfl rfl ?_
      refine ev_i2l rfl rfl ?_
      refine ev_S3D rfl rfl lk_X10_124 st_X10_in rfl rfl (c_in _ _ _ _ _) ?_
      refine ev_if_ne rfl rfl (fun c_175 => ?_) (fun c_175 => ?_)
      · refine ev_iinc (y := 1) rfl rfl rfl (by decide) rfl rfl ?_
        dsimp only [List.set]
        refine ev_goto rfl rfl ?_
        rw [nI_1 i]
        exact ih (i + 1) (by omega) (fun j hj => by
          by_cases e : j = i
          · subst e; exact fun z_ => c_175 z_.2
          · exact nb j (by omega)) kk kb
      · refine ev_sipush (v := (-1012)) rfl rfl (by decide) ?_
        exact ev_iret rfl rfl rfl (kb i (by omega) ⟨c_151, c_175⟩)

theorem bg_0 {h : Hp} {t k p s l q : Int32} (g : r_bg h t k p s l q = 0) : True ∧ ¬ z_wi k (-11) 11 = 0 ∧ ¬ z_wi p 0 (h 2 3) = 0 ∧ ¬ z_has t (h 28 2) = 0 ∧ z_fas (h 62 s.toNatClampNeg) (h 61 s.toNatClampNeg) l = 0 ∧ ¬ z_tld (h 4 7) q = 0 ∧ ¬ gsC h t k = 0 := by
  unfold r_bg at g
  by_cases q1 : z_tld (h 4 7) q = 0
  · rw [if_pos q1] at g; exact absurd g (by decide)
  rw [if_neg q1] at g
  by_cases q2 : z_has t (h 28 2) = 0
  · rw [if_pos q2] at g; exact absurd g (by decide)
  rw [if_neg q2] at g
  by_cases q3 : z_wi k (-11) 11 = 0
  · rw [if_pos q3] at g; exact absurd g (by decide)
  rw [if_neg q3] at g
  by_cases q4 : z_wi p 0 (h 2 3) = 0
  · rw [if_pos q4] at g; exact absurd g (by decide)
  rw [if_neg q4] at g
  by_cases q5 : z_has s 4 = 0
  · rw [if_pos q5] at g; exact absurd g (by decide)
  rw [if_neg q5] at g
  by_cases q6 : z_wi l 0 2 = 0
  · rw [if_pos q6] at g; exact absurd g (by decide)
  rw [if_neg q6] at g
  by_cases q7 : gsC h t k = 0
  · rw [if_pos q7] at g; exact absurd g (by decide)
  rw [if_neg q7] at g
  by_cases q8 : z_fas (h 62 s.toNatClampNeg) (h 61 s.toNatClampNeg) l = 0
  · exact ⟨trivial, q3, q4, q2, q8, q1, q7⟩
  · rw [if_neg q8] at g
    rcases fas_01 q8 with y | y <;> rw [y] at g <;> exact absurd g (by decide)

set_option maxRecDepth 100000 in
set_option maxHeartbeats 4000000 in
theorem x_mbl (L : Nat) (b : Bool) (h : Hp) (hB : Bx h) (hE : RE h) (hT : RTU h) (hS : RSh h) (hL : RLk h) (n : Nat) (hn : n < 6) (en : (nI n).toNatClampNeg = n) (j : Nat) (hj : j < 4) (es : (nI j).toNatClampNeg = j) (k p l f q : Int32) (g0 : r_bg h (nI n) k p (nI j) l q = 0) : EvQ mi_X10_blame 130 [some (.ref 63), some (.int (nI n)), some (.int k), some (.int p), some (.int (nI j)), some (.int l), some (.int f), some (.int q), none, none, none, none, none, none, none] [] (G0 L b) h 0 0 (QI (fun r _ => (¬ r_bg h (nI n) k p (nI j) l q = 0 → r = r_bg h (nI n) k p (nI j) l q) ∧ (r_bg h (nI n) k p (nI j) l q = 0 → BLM (oC_ h (nI n) k p (nI j) f) (tB_ h (nI n) k (nI j) f) q r)) [(85, 999), (86, 999), (87, 999)] (G0 L b) h) := by
  obtain ⟨gg, hk, hp', hn0, hfz, htl, hin⟩ := bg_0 g0
  obtain ⟨b0, hW, -⟩ := id hE
  have c0 : ¬ z_has (nI n) (h 28 2) = 0 := hn0
  obtain ⟨n_, hn_, en_, en2_, nlt⟩ := try_pt hB hT c0
  have nn : n = (nI n).toNatClampNeg := en.symm
  rw [en] at en2_
  subst en2_
  obtain ⟨a1, a2⟩ := hT.2.2.2 n nlt
  have pk := z_wi_B (by decide : B (-11) (-11) (-11)) (by decide : B 11 11 11) hk
  have hq := tld_q (show B (h 4 7) 0 12 from hB 4 7) htl
  have hp : B p 0 200 := (z_wi_B (by decide : B 0 0 0) (show B (h 2 3) 0 200 from hB 2 3) hp')
  have m24 := (B.nI (u := 24) (hB 73 n)).2
  have lw12 : nW h ≤ 12 := (B.nI (u := 12) (hB 4 7)).2
  have ew : h 4 7 = nI (nW h) := (B.nI (u := 12) (hB 4 7)).1
  have hg := hin
  unfold gsC at hg
  rw [en, a1] at hg
  have a2' : ∀ i, i < (h 73 n).toNatClampNeg → h (30 + n) i = h 74 (24 * n + i) := fun i hi => a2 i (by rw [a1]; exact hi)
  have bo : B (s_or h (30 + n) (h 73 n).toNatClampNeg) 0 4095 := s_or_B (hB.tun hn) _
  have hg2 : ¬ s_in (s_or h (30 + n) (h 73 n).toNatClampNeg) k (nI (nW h) - 1) 12 = 0 := by rw [← goes_eq bo pk lw12, ← ew]; exact hg
  have bc : ∀ i, i < (h 73 n).toNatClampNeg → B (cB h n k i) 0 4095 := fun i hi => mv_B (hB.tun hn i) bo (s_or_sub _ i hi) pk (show B (h 4 7) 0 12 from hB 4 7) hg
  have cx : ∀ i, i < (h 73 n).toNatClampNeg → (cB h n k i = 0 ↔ h 74 (24 * n + i) = 0) := fun i hi => by
    rw [← a2' i hi]
    exact mv_ne (hB.tun hn i) (s_or_sub _ i hi) pk lw12 hg2
  have lwn : ∀ i, i < (h 73 n).toNatClampNeg → ¬ cB h n k i = 0 → lw (cB h n k i) < nW h := fun i hi h0 => lw_n (hB.tun hn i) (s_or_sub _ i hi) pk lw12 hg2 (bc i hi) h0
  rw [es] at hfz
  have n62 : ¬ h 62 j = -1 := fun z => by
    rw [z] at hfz
    have y : z_fas (-1) (h 61 j) l = 1 := by
      unfold z_fas
      rw [show z_noth (-1) = (1 : Int32) from by decide, if_neg (show ¬ (1 : Int32) = 0 by decide)]
    rw [y] at hfz
    exact absurd hfz (by decide)
  have e62 : h 62 j = h 93 j := ((hS j hj).2.1 n62).1
  have s60 : B (h 93 j) 0 60 := hB 93 j
  have tbj : ∀ i, i < (h 73 n).toNatClampNeg → (¬ h 74 (24 * n + i) = 0 ∧ z_in (f.toInt64 + (nI i).toInt64) 0 ((h 93 j - 1).toInt64) = 0) → tB_ h (nI n) k (nI j) f := fun i hi bad => by
    unfold tB_
    rw [en, es, a1, e62]
    exact ⟨i, hi, fun z => bad.1 ((cx i hi).mp z), (ix_iff s60 (by have := (B.nI (u := 24) (hB 73 n)).2; omega)).mp bad.2⟩
  refine ev_iconst (v := 0) rfl rfl (by decide) ?_
  refine ev_istore rfl rfl rfl rfl ?_
  dsimp only [List.set]
  refine l_idx L b h n hn j hj k p l f q (h 73 n).toNatClampNeg (B.nI (u := 24) (hB 73 n)).2 (B.nI (u := 24) (hB 73 n)).1 _ (h 73 n).toNatClampNeg 0 (by omega) (fun j_ hj_ => absurd hj_ (Nat.not_lt_zero _)) (fun nb => ?_) (fun j_ hj_ bad => ⟨⟨_, rfl, fun z_ => absurd g0 z_, fun _ => ⟨fun _ => rfl, fun z_ => absurd (tbj j_ hj_ bad) z_⟩⟩, rfl, JW.refl hB⟩)
  have nt : ¬ tB_ h (nI n) k (nI j) f := fun ⟨i, i1, i2, i3⟩ => by
    rw [en] at i1 i2
    rw [es] at i3
    rw [a1] at i1
    refine nb i i1 ⟨fun z => i2 ((cx i i1).mpr z), (ix_iff s60 (by omega)).mpr ?_⟩
    rw [← e62]; exact i3
  refine ev_bipush (v := (-4)) rfl rfl (by decide) ?_
  refine ev_istore rfl rfl rfl rfl ?_
  dsimp only [List.set]
  refine ev_bipush (v := (-4)) rfl rfl (by decide) ?_
  refine ev_istore rfl rfl rfl rfl ?_
  dsimp only [List.set]
  refine ev_iconst (v := (-1)) rfl rfl (by decide) ?_
  refine ev_istore rfl rfl rfl rfl ?_
  dsimp only [List.set]
  refine EvQ.mono (l_mbl L b h n hn j hj k p l f q hq hp (h 73 n).toNatClampNeg (B.nI (u := 24) (hB 73 n)).2 (B.nI (u := 24) (hB 73 n)).1 (cB h n k) (vB h n j k f) (fun i hi => by unfold cB; rw [a2 i (by rw [a1]; exact hi)]) bc (fun i hi h0 => ?_) (nW h) (B.nI (u := 12) (hB 4 7)).2 (hW.1.symm.trans (B.nI (u := 12) (hB 4 7)).1) (fun i hi h0 => ⟨hW.2.1 _ (lwn i hi h0), (hL.1.1 _ (lw_of (bc i hi) h0).2).1⟩) (nW h + 1) 0 (-4) (-4) h (by omega) (JW.refl hB) ⟨fun _ => ⟨rfl, rfl⟩, fun x e => by cases e⟩) (Nat.le_refl _) (Nat.le_refl _) (fun v_ G_ h_ q_ => ?_)
  · have g_ := nb i hi
    have z_ : ¬ z_has (f + nI i) (h 62 j) = 0 := fun y_ => g_ ⟨fun t_ => h0 ((cx i hi).mpr t_), (ix_iff s60 (by omega)).mpr (by rw [← e62]; exact y_)⟩
    have n_ := has_n z_
    have s2_ := (show B (h 62 j) (-1) 60 from hB 62 j).2
    have bx_ : B (f + nI i) 0 ((59 : Nat) : Int) := ⟨n_.1, by omega⟩
    refine ⟨(f + nI i).toNatClampNeg, by have := (B.nI bx_).2; omega, (B.nI bx_).1, ?_⟩
    unfold vB
    rw [if_neg h0]
    exact ((hS j hj).2.2 _ (by have := (B.nI bx_).2; omega)).symm
  · obtain ⟨⟨r_, ev_, c1_, c2_⟩, eg_, ej_⟩ := q_
    have eo : oC_ h (nI n) k p (nI j) f = fr (eM h (nW h) (h 73 n).toNatClampNeg (cB h n k) (vB h n j k f) p) (nW h + 1) := by
      unfold oC_
      rw [en, es, a1]
      refine fr_cg _ (fun u hu => ?_)
      unfold eX eM
      rw [dN_eq hB hE (by have := (B.nI (u := 12) (hB 4 7)).2; have e_ : (h 4 7).toNatClampNeg = nW h := rfl; omega)]
    exact ⟨⟨r_, ev_, fun z_ => absurd g0 z_, fun _ => ⟨fun z_ => absurd z_ nt, fun _ => ⟨fun e_ => c1_ (eo.symm.trans e_), fun x_ e_ => c2_ x_ (eo.symm.trans e_)⟩⟩⟩, eg_, ej_⟩

set_option maxRecDepth 100000 in
set_option maxHeartbeats 4000000 in
theorem w_blameM (L : Nat) (b : Bool) (h : Hp) (hB : Bx h) (hE : RE h) (hT : RTU h) (hS : RSh h) (hL : RLk h) (t k p s l f q : Int32) : EvI mi_X10_blame [.ref 63, .int t, .int k, .int p, .int s, .int l, .int f, .int q] (G0 L b) h (fun r _ => (¬ r_bg h t k p s l q = 0 → r = r_bg h t k p s l q) ∧ (r_bg h t k p s l q = 0 → BLM (oC_ h t k p s f) (tB_ h t k s f) q r)) [(85, 999), (86, 999), (87, 999)] := by
  refine EvM.of2 (lo := [some (.ref 63), some (.int t), some (.int k), some (.int p), some (.int s), some (.int l), some (.int f), some (.int q), none, none, none, none, none, none, none]) pf_X10_blame ok_X10_blame rfl rfl ?_
  refine ev_aload_n rfl rfl rfl ?_
  refine ev_iload_n rfl rfl rfl ?_
  refine ev_V1D rfl rfl lk_X10_266 vt_X10_isTune rfl rfl rfl rfl rfl (c_misTune L b h hB _) ?_
  refine ev_if_eq rfl rfl (fun c_5 => ?_) (fun c_5 => ?_)
  · refine ev_sipush (v := (-1000)) rfl rfl (by decide) ?_
    exact ev_iret rfl rfl rfl (⟨⟨_, rfl, fun _ => (by rw [← bg_eq hB hE hT hS]; simp only [rm_bg, if_pos c_5, if_true, if_neg (show ¬ (1 : Int32) = 0 by decide)]), fun z_ => absurd z_ (by rw [← bg_eq hB hE hT hS]; simp only [rm_bg, if_pos c_5, if_true, if_neg (show ¬ (1 : Int32) = 0 by decide)]; decide)⟩, rfl, JW.refl hB⟩)
  · refine ev_iload_n rfl rfl rfl ?_
    refine ev_i2l rfl rfl ?_
    refine ev_ldc2 rfl rfl kc_X10_282 ?_
    refine ev_ldc2 rfl rfl kc_X10_284 ?_
    refine ev_S3D rfl rfl lk_X10_124 st_X10_in rfl rfl (c_inw _ _ _ (-11) (11) (by decide) (by decide)) ?_
    refine ev_if_eq rfl rfl (fun c_19 => ?_) (fun c_19 => ?_)
    · refine ev_sipush (v := (-1000)) rfl rfl (by decide) ?_
      exact ev_iret rfl rfl rfl (⟨⟨_, rfl, fun _ => (by rw [← bg_eq hB hE hT hS]; simp only [rm_bg, if_neg c_5, if_pos c_19, if_true, if_neg (show ¬ (1 : Int32) = 0 by decide)]), fun z_ => absurd z_ (by rw [← bg_eq hB hE hT hS]; simp only [rm_bg, if_neg c_5, if_pos c_19, if_true, if_neg (show ¬ (1 : Int32) = 0 by decide)]; decide)⟩, rfl, JW.refl hB⟩)
    · refine ev_iload_n rfl rfl rfl ?_
      refine ev_i2l rfl rfl ?_
      refine ev_lconst (v := 0) rfl rfl rfl ?_
      refine ev_aload_n rfl rfl rfl ?_
      refine ev_getI rfl rfl fl_X10_19 rfl rfl rfl ?_
      refine ev_i2l rfl rfl ?_
      refine ev_S3D rfl rfl lk_X10_124 st_X10_in rfl rfl (c_inw _ _ _ (0) (h 63 3) (by decide) rfl) ?_
      refine ev_if_eq rfl rfl (fun c_33 => ?_) (fun c_33 => ?_)
      · refine ev_sipush (v := (-1000)) rfl rfl (by decide) ?_
        exact ev_iret rfl rfl rfl (⟨⟨_, rfl, fun _ => (by rw [← bg_eq hB hE hT hS]; simp only [rm_bg, if_neg c_5, if_neg c_19, if_pos c_33, if_true, if_neg (show ¬ (1 : Int32) = 0 by decide)]), fun z_ => absurd z_ (by rw [← bg_eq hB hE hT hS]; simp only [rm_bg, if_neg c_5, if_neg c_19, if_pos c_33, if_true, if_neg (show ¬ (1 : Int32) = 0 by decide)]; decide)⟩, rfl, JW.refl hB⟩)
      · refine ev_iload rfl rfl rfl ?_
        refine ev_iload rfl rfl rfl ?_
        refine ev_S2D rfl rfl lk_X10_335 st_X10_isSheet rfl rfl (c_isSheet _ _ _ _) ?_
        refine ev_if_eq rfl rfl (fun c_43 => ?_) (fun c_43 => ?_)
        · refine ev_sipush (v := (-1000)) rfl rfl (by decide) ?_
          exact ev_iret rfl rfl rfl (⟨⟨_, rfl, fun _ => (by rw [← bg_eq hB hE hT hS]; simp only [rm_bg, if_neg c_5, if_neg c_19, if_neg c_33, if_pos c_43, if_true, if_neg (show ¬ (1 : Int32) = 0 by decide)]), fun z_ => absurd z_ (by rw [← bg_eq hB hE hT hS]; simp only [rm_bg, if_neg c_5, if_neg c_19, if_neg c_33, if_pos c_43, if_true, if_neg (show ¬ (1 : Int32) = 0 by decide)]; decide)⟩, rfl, JW.refl hB⟩)
        · refine ev_iload rfl rfl rfl ?_
          refine ev_i2l rfl rfl ?_
          refine ev_lconst (v := 0) rfl rfl rfl ?_
          refine ev_ldc2 rfl rfl kc_X10_183 ?_
          refine ev_S3D rfl rfl lk_X10_124 st_X10_in rfl rfl (c_inw _ _ _ (0) (2) (by decide) (by decide)) ?_
          refine ev_if_ne rfl rfl (fun c_56 => ?_) (fun c_56 => ?_)
          · have pt : B t 0 5 := by
              have z_ := z_has_B (show B (h 63 23) 0 6 from hB 63 23) c_5
              have y_ := (show B (h 63 23) 0 6 from hB 63 23).2
              exact ⟨z_.1, by omega⟩
            obtain ⟨n, hn, rfl, en⟩ := B.nat6 pt
            obtain ⟨j, hj, rfl⟩ := z_sht_k c_43
            have es := nI_clamp (show j < 2 ^ 31 by omega)
            refine ev_aload_n rfl rfl rfl ?_
            refine ev_iload_n rfl rfl rfl ?_
            refine ev_iload_n rfl rfl rfl ?_
            refine ev_V2D rfl rfl lk_X10_286 vt_X10_isIn rfl rfl rfl rfl rfl (EvD.to (c_misIn L b h n hn _ (B.nI (u := 24) (hB 73 n)).2 (B.nI (u := 24) (hB 73 n)).1 k) (show _ = inM h (nI n) k from by unfold inM; rw [en]) rfl) ?_
            refine ev_if_ne rfl rfl (fun c_89 => ?_) (fun c_89 => ?_)
            · refine ev_aload_n rfl rfl rfl ?_
              refine ev_getR rfl rfl fl_X10_112 rfl rfl rfl rfl ?_
              refine ev_iload rfl rfl rfl ?_
              refine ev_iald rfl rfl rfl (vp_in_nI (by omega) (by decide)) (nI_clamp (by omega)) ?_
              refine ev_iload rfl rfl rfl ?_
              refine ev_icmp_eq rfl rfl (fun c_105 => ?_) (fun c_105 => ?_)
              · have g0 : r_bg h (nI n) k p (nI j) l q = 0 := by rw [← bg_eq hB hE hT hS]; simp only [rm_bg, if_neg c_5, if_neg c_19, if_neg c_33, if_neg c_43, if_neg c_56, if_neg c_89, if_pos c_105, if_true, en, es, if_neg (show ¬ (1 : Int32) = 0 by decide)]
                exact x_mbl L b h hB hE hT hS hL n hn en j hj es k p l f q g0
              · refine ev_sipush (v := (-1010)) rfl rfl (by decide) ?_
                refine ev_aload_n rfl rfl rfl ?_
                refine ev_getR rfl rfl fl_X10_112 rfl rfl rfl rfl ?_
                refine ev_iload rfl rfl rfl ?_
                refine ev_iald rfl rfl rfl (vp_in_nI (by omega) (by decide)) (nI_clamp (by omega)) ?_
                refine ev_bipush (v := (-4)) rfl rfl (by decide) ?_
                refine ev_icmp_ne rfl rfl (fun c_120 => ?_) (fun c_120 => ?_)
                · refine ev_iconst (v := 3) rfl rfl (by decide) ?_
                  refine ev_isub rfl rfl ?_
                  exact ev_iret rfl rfl rfl (⟨⟨_, rfl, fun _ => (by rw [← bg_eq hB hE hT hS]; simp only [rm_bg, if_neg c_5, if_neg c_19, if_neg c_33, if_neg c_43, if_neg c_56, if_neg c_89, if_neg c_105, if_neg c_120, if_true, if_neg (show ¬ (1 : Int32) = 0 by decide), en, es]), fun z_ => absurd z_ (by rw [← bg_eq hB hE hT hS]; simp only [rm_bg, if_neg c_5, if_neg c_19, if_neg c_33, if_neg c_43, if_neg c_56, if_neg c_89, if_neg c_105, if_neg c_120, if_true, if_neg (show ¬ (1 : Int32) = 0 by decide), en, es]; decide)⟩, rfl, JW.refl hB⟩)
                · refine ev_iconst (v := 1) rfl rfl (by decide) ?_
                  refine ev_goto rfl rfl ?_
                  refine ev_isub rfl rfl ?_
                  exact ev_iret rfl rfl rfl (⟨⟨_, rfl, fun _ => (by rw [← bg_eq hB hE hT hS]; simp only [rm_bg, if_neg c_5, if_neg c_19, if_neg c_33, if_neg c_43, if_neg c_56, if_neg c_89, if_neg c_105, if_pos c_120, if_true, if_neg (show ¬ (1 : Int32) = 0 by decide), en, es]), fun z_ => absurd z_ (by rw [← bg_eq hB hE hT hS]; simp only [rm_bg, if_neg c_5, if_neg c_19, if_neg c_33, if_neg c_43, if_neg c_56, if_neg c_89, if_neg c_105, if_pos c_120, if_true, if_neg (show ¬ (1 : Int32) = 0 by decide), en, es]; decide)⟩, rfl, JW.refl hB⟩)
            · refine ev_sipush (v := (-1002)) rfl rfl (by decide) ?_
              exact ev_iret rfl rfl rfl (⟨⟨_, rfl, fun _ => (by rw [← bg_eq hB hE hT hS]; simp only [rm_bg, if_neg c_5, if_neg c_19, if_neg c_33, if_neg c_43, if_neg c_56, if_pos c_89, if_true, if_neg (show ¬ (1 : Int32) = 0 by decide), en, es]), fun z_ => absurd z_ (by rw [← bg_eq hB hE hT hS]; simp only [rm_bg, if_neg c_5, if_neg c_19, if_neg c_33, if_neg c_43, if_neg c_56, if_pos c_89, if_true, if_neg (show ¬ (1 : Int32) = 0 by decide), en, es]; decide)⟩, rfl, JW.refl hB⟩)
          · refine ev_iload rfl rfl rfl ?_
            refine ev_i2l rfl rfl ?_
            refine ev_ldc2 rfl rfl kc_X10_167 ?_
            refine ev_bipush (v := 19) rfl rfl (by decide) ?_
            refine ev_aload_n rfl rfl rfl ?_
            refine ev_getI rfl rfl fl_X10_121 rfl rfl rfl ?_
            refine ev_iadd rfl rfl ?_
            refine ev_i2l rfl rfl ?_
            refine ev_S3D rfl rfl lk_X10_124 st_X10_in rfl rfl (c_inw _ _ _ (20) (19 + h 63 5) (by decide) rfl) ?_
            refine ev_if_ne rfl rfl (fun c_76 => ?_) (fun c_76 => ?_)
            · have pt : B t 0 5 := by
                have z_ := z_has_B (show B (h 63 23) 0 6 from hB 63 23) c_5
                have y_ := (show B (h 63 23) 0 6 from hB 63 23).2
                exact ⟨z_.1, by omega⟩
              obtain ⟨n, hn, rfl, en⟩ := B.nat6 pt
              obtain ⟨j, hj, rfl⟩ := z_sht_k c_43
              have es := nI_clamp (show j < 2 ^ 31 by omega)
              refine ev_aload_n rfl rfl rfl ?_
              refine ev_iload_n rfl rfl rfl ?_
              refine ev_iload_n rfl rfl rfl ?_
              refine ev_V2D rfl rfl lk_X10_286 vt_X10_isIn rfl rfl rfl rfl rfl (EvD.to (c_misIn L b h n hn _ (B.nI (u := 24) (hB 73 n)).2 (B.nI (u := 24) (hB 73 n)).1 k) (show _ = inM h (nI n) k from by unfold inM; rw [en]) rfl) ?_
              refine ev_if_ne rfl rfl (fun c_89 => ?_) (fun c_89 => ?_)
              · refine ev_aload_n rfl rfl rfl ?_
                refine ev_getR rfl rfl fl_X10_112 rfl rfl rfl rfl ?_
                refine ev_iload rfl rfl rfl ?_
                refine ev_iald rfl rfl rfl (vp_in_nI (by omega) (by decide)) (nI_clamp (by omega)) ?_
                refine ev_iload rfl rfl rfl ?_
                refine ev_icmp_eq rfl rfl (fun c_105 => ?_) (fun c_105 => ?_)
                · have g0 : r_bg h (nI n) k p (nI j) l q = 0 := by rw [← bg_eq hB hE hT hS]; simp only [rm_bg, if_neg c_5, if_neg c_19, if_neg c_33, if_neg c_43, if_pos c_56, if_neg c_76, if_neg c_89, if_pos c_105, if_true, en, es, if_neg (show ¬ (1 : Int32) = 0 by decide)]
                  exact x_mbl L b h hB hE hT hS hL n hn en j hj es k p l f q g0
                · refine ev_sipush (v := (-1010)) rfl rfl (by decide) ?_
                  refine ev_aload_n rfl rfl rfl ?_
                  refine ev_getR rfl rfl fl_X10_112 rfl rfl rfl rfl ?_
                  refine ev_iload rfl rfl rfl ?_
                  refine ev_iald rfl rfl rfl (vp_in_nI (by omega) (by decide)) (nI_clamp (by omega)) ?_
                  refine ev_bipush (v := (-4)) rfl rfl (by decide) ?_
                  refine ev_icmp_ne rfl rfl (fun c_120 => ?_) (fun c_120 => ?_)
                  · refine ev_iconst (v := 3) rfl rfl (by decide) ?_
                    refine ev_isub rfl rfl ?_
                    exact ev_iret rfl rfl rfl (⟨⟨_, rfl, fun _ => (by rw [← bg_eq hB hE hT hS]; simp only [rm_bg, if_neg c_5, if_neg c_19, if_neg c_33, if_neg c_43, if_pos c_56, if_neg c_76, if_neg c_89, if_neg c_105, if_neg c_120, if_true, if_neg (show ¬ (1 : Int32) = 0 by decide), en, es]), fun z_ => absurd z_ (by rw [← bg_eq hB hE hT hS]; simp only [rm_bg, if_neg c_5, if_neg c_19, if_neg c_33, if_neg c_43, if_pos c_56, if_neg c_76, if_neg c_89, if_neg c_105, if_neg c_120, if_true, if_neg (show ¬ (1 : Int32) = 0 by decide), en, es]; decide)⟩, rfl, JW.refl hB⟩)
                  · refine ev_iconst (v := 1) rfl rfl (by decide) ?_
                    refine ev_goto rfl rfl ?_
                    refine ev_isub rfl rfl ?_
                    exact ev_iret rfl rfl rfl (⟨⟨_, rfl, fun _ => (by rw [← bg_eq hB hE hT hS]; simp only [rm_bg, if_neg c_5, if_neg c_19, if_neg c_33, if_neg c_43, if_pos c_56, if_neg c_76, if_neg c_89, if_neg c_105, if_pos c_120, if_true, if_neg (show ¬ (1 : Int32) = 0 by decide), en, es]), fun z_ => absurd z_ (by rw [← bg_eq hB hE hT hS]; simp only [rm_bg, if_neg c_5, if_neg c_19, if_neg c_33, if_neg c_43, if_pos c_56, if_neg c_76, if_neg c_89, if_neg c_105, if_pos c_120, if_true, if_neg (show ¬ (1 : Int32) = 0 by decide), en, es]; decide)⟩, rfl, JW.refl hB⟩)
              · refine ev_sipush (v := (-1002)) rfl rfl (by decide) ?_
                exact ev_iret rfl rfl rfl (⟨⟨_, rfl, fun _ => (by rw [← bg_eq hB hE hT hS]; simp only [rm_bg, if_neg c_5, if_neg c_19, if_neg c_33, if_neg c_43, if_pos c_56, if_neg c_76, if_pos c_89, if_true, if_neg (show ¬ (1 : Int32) = 0 by decide), en, es]), fun z_ => absurd z_ (by rw [← bg_eq hB hE hT hS]; simp only [rm_bg, if_neg c_5, if_neg c_19, if_neg c_33, if_neg c_43, if_pos c_56, if_neg c_76, if_pos c_89, if_true, if_neg (show ¬ (1 : Int32) = 0 by decide), en, es]; decide)⟩, rfl, JW.refl hB⟩)
            · refine ev_sipush (v := (-1000)) rfl rfl (by decide) ?_
              exact ev_iret rfl rfl rfl (⟨⟨_, rfl, fun _ => (by rw [← bg_eq hB hE hT hS]; simp only [rm_bg, if_neg c_5, if_neg c_19, if_neg c_33, if_neg c_43, if_pos c_56, if_pos c_76, if_true, if_neg (show ¬ (1 : Int32) = 0 by decide)]), fun z_ => absurd z_ (by rw [← bg_eq hB hE hT hS]; simp only [rm_bg, if_neg c_5, if_neg c_19, if_neg c_33, if_neg c_43, if_pos c_56, if_pos c_76, if_true, if_neg (show ¬ (1 : Int32) = 0 by decide)]; decide)⟩, rfl, JW.refl hB⟩)

theorem bl_t {h : Hp} (hB : Bx h) {t : Int32} (c0 : ¬ z_has t (h 28 2) = 0) : t.toNatClampNeg < 6 := by
  have z := z_has_B (show B (h 28 2) 0 6 from hB 28 2) c0
  have y := (show B (h 28 2) 0 6 from hB 28 2).2
  have p : B t 0 ((5 : Nat) : Int) := ⟨z.1, by omega⟩
  have := (B.nI p).2
  omega
theorem bl_30 {h h1 : Hp} (hJ : JW [(45, 2), (45, 4), (45, 6), (45, 7), (46, 999), (47, 999), (48, 999), (49, 999)] h h1) {n : Nat} (hn : n < 6) (j : Nat) : h1 (30 + n) j = h (30 + n) j := by
  rcases (show n = 0 ∨ n = 1 ∨ n = 2 ∨ n = 3 ∨ n = 4 ∨ n = 5 by omega) with rfl | rfl | rfl | rfl | rfl | rfl <;> exact hJ.2 _ j rfl
theorem bl_57 {h h1 : Hp} (hJ : JW [(45, 2), (45, 4), (45, 6), (45, 7), (46, 999), (47, 999), (48, 999), (49, 999)] h h1) {n : Nat} (hn : n < 4) (j : Nat) : h1 (57 + n) j = h (57 + n) j := by
  rcases (show n = 0 ∨ n = 1 ∨ n = 2 ∨ n = 3 by omega) with rfl | rfl | rfl | rfl <;> exact hJ.2 _ j rfl
theorem bl_or {h h1 : Hp} {c : Nat} (e : ∀ j, h1 c j = h c j) : ∀ m, s_or h1 c m = s_or h c m
  | 0 => rfl
  | m + 1 => by unfold s_or; rw [bl_or e m, e m]
theorem bg_cg {h h1 : Hp} (hB : Bx h) (hJ : JW [(45, 2), (45, 4), (45, 6), (45, 7), (46, 999), (47, 999), (48, 999), (49, 999)] h h1) (t k p s l q : Int32) : r_bg h1 t k p s l q = r_bg h t k p s l q := by
  by_cases c0 : z_has t (h 28 2) = 0
  · unfold r_bg
    rw [hJ.2 4 7 rfl, hJ.2 28 2 rfl, if_pos c0, if_pos c0]
  · have g1 : gsC h1 t k = gsC h t k := by
      unfold gsC
      rw [bl_or (bl_30 hJ (bl_t hB c0)), hJ.2 36 _ rfl, hJ.2 4 7 rfl]
    unfold r_bg
    rw [hJ.2 4 7 rfl, hJ.2 28 2 rfl, hJ.2 2 3 rfl, hJ.2 62 _ rfl, hJ.2 61 _ rfl, g1]
theorem bl_s {s : Int32} (c : ¬ z_has s 4 = 0) : s.toNatClampNeg < 4 := by
  obtain ⟨j, hj, rfl⟩ := z_hask (x := 4) (m := 4) (N := 4) rfl (Nat.le_refl _) (by decide) c
  rw [nI_clamp (show j < 2 ^ 31 by omega)]
  exact hj
theorem bg_s {h : Hp} {t k p s l q : Int32} (g : r_bg h t k p s l q = 0) : ¬ z_has s 4 = 0 := fun z => by
  obtain ⟨-, g1, g2, g3, -, g5, -⟩ := bg_0 g
  unfold r_bg at g
  rw [if_neg g5, if_neg g3, if_neg g1, if_neg g2, if_pos z] at g
  exact absurd g (by decide)
theorem bl_cg {h h1 : Hp} (hB : Bx h) (hJ : JW [(45, 2), (45, 4), (45, 6), (45, 7), (46, 999), (47, 999), (48, 999), (49, 999)] h h1) {t k p s l f q : Int32} (g : r_bg h t k p s l q = 0) : oC_ h1 t k p s f = oC_ h t k p s f ∧ (tB_ h1 t k s f ↔ tB_ h t k s f) := by
  have tn := bl_t hB (bg_0 g).2.2.2.1
  have sn := bl_s (bg_s g)
  have ec : cB h1 t.toNatClampNeg k = cB h t.toNatClampNeg k := funext (fun i => by unfold cB; rw [bl_30 hJ tn])
  have ev : vB h1 t.toNatClampNeg s.toNatClampNeg k f = vB h t.toNatClampNeg s.toNatClampNeg k f := funext (fun i => by unfold vB; rw [ec, bl_57 hJ sn])
  have ew : nW h1 = nW h := by unfold nW; rw [hJ.2 4 7 rfl]
  have fx : xC h1 = xC h := funext (fun w => funext (fun p => funext (fun v => xC_cg (hJ.2 5 w rfl) (hJ.2 9 w rfl) (hJ.2 7 w rfl) p v)))
  have fd : ∀ m lk, dN h1 m lk = dN h m lk := fun m lk => funext (fun p => funext (fun c => by
    unfold dN
    rw [hJ.2 2 3 rfl, hJ.2 2 2 rfl, s_drawn_cg (fun k => hJ.2 6 k rfl)]))
  have ee : ∀ m M c v p, eX h1 m M c v p = eX h m M c v p := fun m M c v p => funext (fun u => by unfold eX; rw [fx, fd])
  constructor
  · unfold oC_
    rw [ec, ev, ew, hJ.2 36 _ rfl, ee]
  · unfold tB_
    rw [ec, hJ.2 36 _ rfl, hJ.2 62 _ rfl]
theorem BLM.iff {o : Option (Int32 × Nat × (Nat → Int32))} {T T' : Prop} {q r : Int32} (h : BLM o T q r) (e : T ↔ T') : BLM o T' q r := ⟨fun t => h.1 (e.mpr t), fun t => h.2 (fun z => t (e.mp z))⟩
theorem blame_er {h h1 : Hp} (hB : Bx h) (hJ : JW [(45, 2), (45, 4), (45, 6), (45, 7), (46, 999), (47, 999), (48, 999), (49, 999)] h h1) {t k p s l f q r1 r2 : Int32} (q1 : (¬ r_bg h t k p s l q = 0 → r1 = r_bg h t k p s l q) ∧ (r_bg h t k p s l q = 0 → BLM (oC_ h t k p s f) (tB_ h t k s f) q r1)) (q2 : (¬ r_bg h1 t k p s l q = 0 → r2 = r_bg h1 t k p s l q) ∧ (r_bg h1 t k p s l q = 0 → BLM (oC_ h1 t k p s f) (tB_ h1 t k s f) q r2)) : r1 = r2 := by
  rw [bg_cg hB hJ] at q2
  by_cases g : r_bg h t k p s l q = 0
  · obtain ⟨e1, e2⟩ := bl_cg (f := f) hB hJ g
    have y := q2.2 g
    rw [e1] at y
    exact (q1.2 g).one (y.iff e2)
  · rw [q1.1 g, q2.1 g]

