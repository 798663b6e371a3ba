/-! WEAK CONTRACTS: bounds of numbers (B), boxes of cells (Bx), what a method may write (JW) -/
abbrev B (x : Int32) (l u : Int) : Prop := l ≤ x.toInt ∧ x.toInt ≤ u
theorem B.any (x : Int32) : B x (-2147483648) 2147483647 := ⟨Int32.le_toInt x, by have := Int32.toInt_lt x; omega⟩
theorem B.mono {x : Int32} {l u l' u' : Int} (h : B x l u) (h1 : l' ≤ l) (h2 : u ≤ u') : B x l' u' := ⟨Int.le_trans h1 h.1, Int.le_trans h.2 h2⟩
theorem w_add {x y : Int32} (h1 : -2147483648 ≤ x.toInt + y.toInt) (h2 : x.toInt + y.toInt ≤ 2147483647) : (x + y).toInt = x.toInt + y.toInt := by
  rw [Int32.toInt_add]; exact Int.bmod_eq_of_le (by omega) (by omega)
theorem w_sub {x y : Int32} (h1 : -2147483648 ≤ x.toInt - y.toInt) (h2 : x.toInt - y.toInt ≤ 2147483647) : (x - y).toInt = x.toInt - y.toInt := by
  rw [Int32.toInt_sub]; exact Int.bmod_eq_of_le (by omega) (by omega)
theorem w_mul {x y : Int32} (h1 : -2147483648 ≤ x.toInt * y.toInt) (h2 : x.toInt * y.toInt ≤ 2147483647) : (x * y).toInt = x.toInt * y.toInt := by
  rw [Int32.toInt_mul]; exact Int.bmod_eq_of_le (by omega) (by omega)
theorem B.mul {x y : Int32} {a b c d : Int} (hx : B x a b) (hy : B y c d) (h1 : 0 ≤ a) (h2 : 0 ≤ c) (h3 : b * d ≤ 2147483647) : B (x * y) (a * c) (b * d) := by
  have e1 : a * c ≤ x.toInt * y.toInt := Int.mul_le_mul hx.1 hy.1 h2 (Int.le_trans h1 hx.1)
  have e2 : x.toInt * y.toInt ≤ b * d := Int.mul_le_mul hx.2 hy.2 (Int.le_trans h2 hy.1) (Int.le_trans h1 (Int.le_trans hx.1 hx.2))
  have e0 : 0 ≤ a * c := Int.mul_nonneg h1 h2
  unfold B
  rw [w_mul (by omega) (by omega)]
  exact ⟨e1, e2⟩
theorem B.mule {x y : Int32} {a b c d : Int} (hx : B x a b) (hy : B y c d) (h1 : 0 ≤ a) (h2 : 0 ≤ c) (h3 : b * d ≤ 2147483647) : (x * y).toInt = x.toInt * y.toInt := by
  have e1 : a * c ≤ x.toInt * y.toInt := Int.mul_le_mul hx.1 hy.1 h2 (Int.le_trans h1 hx.1)
  have e2 : x.toInt * y.toInt ≤ b * d := Int.mul_le_mul hx.2 hy.2 (Int.le_trans h2 hy.1) (Int.le_trans h1 (Int.le_trans hx.1 hx.2))
  have e0 : 0 ≤ a * c := Int.mul_nonneg h1 h2
  exact w_mul (by omega) (by omega)
theorem w_nat (x : Int32) (h : 0 ≤ x.toInt) : x.toInt = (x.toBitVec.toNat : Int) := by
  have e : x.toInt = x.toBitVec.toInt := rfl
  rw [e] at h ⊢
  rw [BitVec.toInt_eq_toNat_cond] at h ⊢
  split
  · rfl
  · rename_i q
    rw [if_neg q] at h
    have := x.toBitVec.isLt
    omega
theorem w_of_nat (x : Int32) (h : x.toBitVec.toNat < 2147483648) : x.toInt = (x.toBitVec.toNat : Int) := by
  have e : x.toInt = x.toBitVec.toInt := rfl
  rw [e, BitVec.toInt_eq_toNat_cond, if_pos (by omega)]
theorem B.and {x y : Int32} {c d : Int} (hy : B y c d) (h2 : 0 ≤ c) : B (x &&& y) 0 d := by
  have e := w_nat y (Int.le_trans h2 hy.1)
  have h3 : (x &&& y).toBitVec.toNat ≤ y.toBitVec.toNat := by
    rw [Int32.toBitVec_and, BitVec.toNat_and]; exact Nat.and_le_right
  have h4 := Int32.toInt_lt y
  have e2 := w_of_nat (x &&& y) (by omega)
  unfold B
  rw [e2]
  have := hy.2
  exact ⟨by omega, by omega⟩
theorem B.andL {x y : Int32} {c d : Int} (hx : B x c d) (h2 : 0 ≤ c) : B (x &&& y) 0 d := by
  rw [Int32.and_comm]; exact hx.and h2
theorem B.or {x y : Int32} {a c : Int} {b d : Int} (n : Nat) (hx : B x a b) (hy : B y c d) (h1 : 0 ≤ a) (h2 : 0 ≤ c) (hn : n ≤ 31) (hb : b < 2 ^ n) (hd : d < 2 ^ n) : B (x ||| y) 0 (2 ^ n - 1) := by
  have e := w_nat y (Int.le_trans h2 hy.1)
  have e1 := w_nat x (Int.le_trans h1 hx.1)
  have q : ((2 ^ n : Nat) : Int) = 2 ^ n := by norm_cast
  have h3 : (x ||| y).toBitVec.toNat < 2 ^ n := by
    rw [Int32.toBitVec_or, BitVec.toNat_or]
    refine Nat.or_lt_two_pow ?_ ?_
    · have := hx.2; omega
    · have := hy.2; omega
  have h4 : 2 ^ n ≤ 2 ^ 31 := Nat.pow_le_pow_right (by decide) hn
  have e2 := w_of_nat (x ||| y) (by omega)
  unfold B
  rw [e2]
  exact ⟨by omega, by omega⟩
theorem w_le {x y : Int32} (h : x ≤ y) : x.toInt ≤ y.toInt := Int32.le_iff_toInt_le.mp h
theorem w_lt {x y : Int32} (h : x < y) : x.toInt < y.toInt := Int32.lt_iff_toInt_lt.mp h
theorem w_ne {x y : Int32} (h : ¬ x = y) : ¬ x.toInt = y.toInt := fun e => h (Int32.toInt_inj.mp e)
theorem w_lits : (0 : Int32).toInt = 0 ∧ (1 : Int32).toInt = 1 ∧ (2 : Int32).toInt = 2 ∧ (3 : Int32).toInt = 3 ∧ (4 : Int32).toInt = 4 ∧ (5 : Int32).toInt = 5 ∧ (6 : Int32).toInt = 6 ∧ (7 : Int32).toInt = 7 ∧ (8 : Int32).toInt = 8 ∧ (9 : Int32).toInt = 9 ∧ (10 : Int32).toInt = 10 ∧ (11 : Int32).toInt = 11 ∧ (12 : Int32).toInt = 12 ∧ (13 : Int32).toInt = 13 ∧ (14 : Int32).toInt = 14 ∧ (15 : Int32).toInt = 15 ∧ (16 : Int32).toInt = 16 ∧ (17 : Int32).toInt = 17 ∧ (18 : Int32).toInt = 18 ∧ (19 : Int32).toInt = 19 ∧ (20 : Int32).toInt = 20 ∧ (21 : Int32).toInt = 21 ∧ (22 : Int32).toInt = 22 ∧ (23 : Int32).toInt = 23 ∧ (24 : Int32).toInt = 24 ∧ (25 : Int32).toInt = 25 ∧ (32 : Int32).toInt = 32 ∧ (48 : Int32).toInt = 48 ∧ (57 : Int32).toInt = 57 ∧ (97 : Int32).toInt = 97 ∧ (122 : Int32).toInt = 122 ∧ (160 : Int32).toInt = 160 ∧ (56 : Int32).toInt = 56 ∧ (-6 : Int32).toInt = -6 ∧ (-5 : Int32).toInt = -5 ∧ (-4 : Int32).toInt = -4 ∧ (-3 : Int32).toInt = -3 ∧ (-2 : Int32).toInt = -2 ∧ (-1 : Int32).toInt = -1 := by decide
theorem w_nle {x y : Int32} (h : ¬ x ≤ y) : y.toInt < x.toInt := by rw [Int32.le_iff_toInt_le] at h; omega
theorem w_nlt {x y : Int32} (h : ¬ x < y) : y.toInt ≤ x.toInt := by rw [Int32.lt_iff_toInt_lt] at h; omega
/-! what a comparison says: X of its first number's bounds, Y of its second's -/
section BR
variable {x y : Int32} {a b c d u : Int}
theorem R_ltX (hx : B x a b) (hy : B y c d) (q : x < y) (hu : d - 1 ≤ u) : B x a u := ⟨hx.1, by have := w_lt q; have := hy.2; omega⟩
theorem R_ltY (hx : B x a b) (hy : B y c d) (q : x < y) (hu : u ≤ a + 1) : B y u d := ⟨by have := w_lt q; have := hx.1; omega, hy.2⟩
theorem R_leX (hx : B x a b) (hy : B y c d) (q : x ≤ y) (hu : d ≤ u) : B x a u := ⟨hx.1, by have := w_le q; have := hy.2; omega⟩
theorem R_leY (hx : B x a b) (hy : B y c d) (q : x ≤ y) (hu : u ≤ a) : B y u d := ⟨by have := w_le q; have := hx.1; omega, hy.2⟩
theorem R_eqX (_ : B x a b) (hy : B y c d) (q : x = y) : B x c d := by rw [q]; exact hy
theorem R_eqY (hx : B x a b) (_ : B y c d) (q : x = y) : B y a b := by rw [← q]; exact hx
theorem R_neL (hx : B x a b) (hy : B y a a) (q : ¬ x = y) (hu : u ≤ a + 1) : B x u b := by
  have h1 : x.toInt ≠ y.toInt := fun e => q (Int32.toInt_inj.mp e)
  have := hx.1; have := hx.2; have := hy.1; have := hy.2
  exact ⟨by omega, hx.2⟩
theorem R_neU (hx : B x a b) (hy : B y b b) (q : ¬ x = y) (hu : b - 1 ≤ u) : B x a u := by
  have h1 : x.toInt ≠ y.toInt := fun e => q (Int32.toInt_inj.mp e)
  have := hx.1; have := hx.2; have := hy.1; have := hy.2
  exact ⟨hx.1, by omega⟩
theorem R_bk {v : Int32} {l l' u' : Int} (e : v.toInt = x.toInt + y.toInt) (hv : B v l u) (hy : B y d d) (h1 : l - d = l') (h2 : u - d = u') : B x l' u' := by
  have := hv.1; have := hv.2; have := hy.1; have := hy.2
  exact ⟨by omega, by omega⟩
theorem R_bks {v : Int32} {l l' u' : Int} (e : v.toInt = x.toInt - y.toInt) (hv : B v l u) (hy : B y d d) (h1 : l + d = l') (h2 : u + d = u') : B x l' u' := by
  have := hv.1; have := hv.2; have := hy.1; have := hy.2
  exact ⟨by omega, by omega⟩
theorem D_lt (hx : B x a b) (hy : B y c d) (h : b < c) : x < y := Int32.lt_iff_toInt_lt.mpr (by have := hx.2; have := hy.1; omega)
theorem D_nlt (hx : B x a b) (hy : B y c d) (h : d ≤ a) : ¬ x < y := fun q => by have := w_lt q; have := hx.1; have := hy.2; omega
theorem D_le (hx : B x a b) (hy : B y c d) (h : b ≤ c) : x ≤ y := Int32.le_iff_toInt_le.mpr (by have := hx.2; have := hy.1; omega)
theorem D_nle (hx : B x a b) (hy : B y c d) (h : d < a) : ¬ x ≤ y := fun q => by have := w_le q; have := hx.1; have := hy.2; omega
theorem D_eq (hx : B x a a) (hy : B y a a) : x = y := Int32.toInt_inj.mp (by have := hx.1; have := hx.2; have := hy.1; have := hy.2; omega)
theorem D_ne (hx : B x a b) (hy : B y c d) (h : b < c ∨ d < a) : ¬ x = y := fun q => by subst q; have := hx.1; have := hx.2; have := hy.1; have := hy.2; omega
theorem B.z01 (h : B x 0 1) : x = 0 ∨ x = 1 := by
  by_cases q : x.toInt = 0
  · exact Or.inl (Int32.toInt_inj.mp q)
  · exact Or.inr (Int32.toInt_inj.mp (by have := h.1; have := h.2; have e : (1 : Int32).toInt = 1 := by decide
                                         omega))
theorem B.add (hx : B x a b) (hy : B y c d) (h1 : -2147483648 ≤ a + c) (h2 : b + d ≤ 2147483647) : B (x + y) (a + c) (b + d) ∧ (x + y).toInt = x.toInt + y.toInt := by
  have := hx.1; have := hx.2; have := hy.1; have := hy.2
  unfold B
  rw [w_add (by omega) (by omega)]
  exact ⟨⟨by omega, by omega⟩, rfl⟩
theorem B.sub (hx : B x a b) (hy : B y c d) (h1 : -2147483648 ≤ a - d) (h2 : b - c ≤ 2147483647) : B (x - y) (a - d) (b - c) ∧ (x - y).toInt = x.toInt - y.toInt := by
  have := hx.1; have := hx.2; have := hy.1; have := hy.2
  unfold B
  rw [w_sub (by omega) (by omega)]
  exact ⟨⟨by omega, by omega⟩, rfl⟩
theorem B.neg (hx : B x a b) (h1 : -2147483648 < a) : B (-x) (-b) (-a) := by
  have := hx.1; have := hx.2
  have e : (-x).toInt = -x.toInt := by
    rw [Int32.toInt_neg]
    have := Int32.toInt_lt x
    exact Int.bmod_eq_of_le (by omega) (by omega)
  unfold B
  rw [e]
  exact ⟨by omega, by omega⟩
end BR
theorem B.c12 {x : Int32} (h : B x 0 11) : x = 0 ∨ x = 1 ∨ x = 2 ∨ x = 3 ∨ x = 4 ∨ x = 5 ∨ x = 6 ∨ x = 7 ∨ x = 8 ∨ x = 9 ∨ x = 10 ∨ x = 11 := by
  have := h.1; have := h.2
  simp only [← Int32.toInt_inj, Int32.reduceToInt]
  omega
theorem B.shl1 {w : Int32} {a b : Int} (h : B w a b) (h1 : 0 ≤ a) (h2 : b ≤ 11) : B (1 <<< (w &&& 31)) 1 2048 := by
  rcases (h.mono h1 h2).c12 with rfl | rfl | rfl | rfl | rfl | rfl | rfl | rfl | rfl | rfl | rfl | rfl <;> decide

theorem B.ne0 {x : Int32} {a b : Int} (h : B x a b) (ha : 0 < a) : ¬ x = 0 := fun e => by
  subst e
  have := h.1
  have e0 : (0 : Int32).toInt = 0 := by decide
  omega
theorem B.vp {x : Int32} {a b : Int} {n : Nat} (h : B x a b) (h0 : 0 ≤ a) (hb : b < (n : Int)) : vp_in x n := by
  have h1 := h.1
  have h2 := h.2
  have e : x.toNatClampNeg = x.toInt.toNat := rfl
  rintro (q | q)
  · rw [Int32.lt_iff_toInt_lt] at q
    have e0 : (0 : Int32).toInt = 0 := by decide
    omega
  · rw [e] at q
    omega
theorem z_wi_B {v a b : Int32} {l l' u u' : Int} (ha : B a l l') (hb : B b u' u) (h : ¬ z_wi v a b = 0) : B v l u := by
  unfold z_wi at h
  by_cases q1 : v < a
  · rw [if_pos q1] at h; exact absurd rfl h
  · rw [if_neg q1] at h
    by_cases q2 : b < v
    · rw [if_pos q2] at h; exact absurd rfl h
    · have := w_nlt q1; have := w_nlt q2; have := ha.1; have := hb.2
      exact ⟨by omega, by omega⟩
theorem z_wi_01 (v a b : Int32) : B (z_wi v a b) 0 1 := by
  unfold z_wi
  split
  · decide
  · split <;> decide
theorem z_max_B {x y : Int32} {a b c d l u : Int} (hx : B x a b) (hy : B y c d) (h1 : l ≤ a ∨ l ≤ c) (h2 : b ≤ u) (h3 : d ≤ u) : B (z_max x y) l u := by
  have := hx.1; have := hx.2; have := hy.1; have := hy.2
  unfold z_max
  split
  · rename_i q; have := w_lt q; exact ⟨by omega, by omega⟩
  · rename_i q; have := w_nlt q; exact ⟨by omega, by omega⟩
theorem z_min_B {x y : Int32} {a b c d l u : Int} (hx : B x a b) (hy : B y c d) (h1 : l ≤ a) (h2 : l ≤ c) (h3 : b ≤ u ∨ d ≤ u) : B (z_min x y) l u := by
  have := hx.1; have := hx.2; have := hy.1; have := hy.2
  unfold z_min
  split
  · rename_i q; have := w_lt q; exact ⟨by omega, by omega⟩
  · rename_i q; have := w_nlt q; exact ⟨by omega, by omega⟩
/-! boxes: which numbers a cell may hold; 999: every index of an array -/
def bt : List (Nat × Nat × Int × Int) := [(2, 0, 0, 200), (2, 3, 0, 200), (3, 0, 0, 200), (3, 3, 0, 200), (4, 7, 0, 12), (11, 1, 0, 9), (13, 0, 0, 200), (13, 3, 0, 200), (14, 0, 0, 200), (14, 3, 0, 200), (15, 0, 0, 200), (15, 3, 0, 200), (16, 0, 0, 200), (16, 3, 0, 200), (17, 0, 0, 200), (17, 3, 0, 200), (18, 0, 0, 200), (18, 3, 0, 200), (19, 0, 0, 200), (19, 3, 0, 200), (20, 0, 0, 200), (20, 3, 0, 200), (21, 0, 0, 200), (21, 3, 0, 200), (22, 0, 0, 200), (22, 3, 0, 200), (23, 1, 0, 160), (23, 2, 0, 160), (23, 5, 0, 4095), (23, 10, 0, 25), (23, 13, 0, 4), (25, 999, 0, 4095), (26, 999, 0, 25), (27, 999, 0, 4095), (28, 2, 0, 6), (30, 999, 0, 4095), (31, 999, 0, 4095), (32, 999, 0, 4095), (33, 999, 0, 4095), (34, 999, 0, 4095), (35, 999, 0, 4095), (36, 999, 0, 24), (37, 3, 0, 24), (37, 4, 0, 9), (37, 7, 0, 32), (45, 2, 0, 24), (46, 999, 0, 4095), (50, 2, 0, 4), (50, 5, 0, 6), (62, 999, -1, 60), (63, 0, 0, 200), (63, 3, 0, 200), (63, 5, 0, 12), (63, 13, 0, 10), (63, 16, 0, 160), (63, 17, 0, 160), (63, 23, 0, 6), (73, 999, 0, 24), (74, 999, 0, 4095), (75, 999, 0, 4095), (63, 27, 0, 60), (63, 31, 0, 4), (76, 999, 0, 60), (77, 999, 0, 20), (63, 35, 0, 4095), (81, 999, 0, 4095), (63, 45, 0, 4), (63, 48, 0, 6), (63, 51, 1, 99), (93, 999, 0, 60), (72, 999, 0, 255), (63, 21, 0, 6), (63, 19, 0, 3)]
def bf : List (Nat × Nat × Int × Int) → Nat → Nat → Int × Int
  | [], _, _ => (-2147483648, 2147483647)
  | q :: r, a, k => bif Nat.beq q.1 a then (bif Nat.beq q.2.1 999 then q.2.2 else bif Nat.beq q.2.1 k then q.2.2 else bf r a k) else bf r a k
def bk : Nat → Int × Int
  | 0 => (0, 200)
  | 3 => (0, 200)
  | 5 => (0, 12)
  | _ => (-2147483648, 2147483647)
/-- how many whistles a chord can have, by its number -/
def bm (k : Nat) : Int := if k < 1 then 0 else if k < 2 then 1 else if k < 4 then 2 else if k < 8 then 3 else if k < 16 then 4 else if k < 32 then 5 else if k < 64 then 6 else if k < 128 then 7 else if k < 256 then 8 else if k < 512 then 9 else if k < 1024 then 10 else if k < 2048 then 11 else 12
/-- the box of a slot; kept (71) goes by rows of 42, the model's table (78) by rows of 1809, manyOf (83) by chords -/
def bx (a k : Nat) : Int × Int := bif Nat.beq a 71 then bk (k % 42) else bif Nat.beq a 78 then (0, 192 * ((24 - k / 1809 : Nat) : Int)) else bif Nat.beq a 83 then (0, bm k) else bf bt a k
def Bx (h : Hp) : Prop := ∀ a k, B (h a k) (bx a k).1 (bx a k).2
def wm (W : List (Nat × Nat)) (a k : Nat) : Bool := W.any (fun q => Nat.beq q.1 a && (Nat.beq q.2 999 || Nat.beq q.2 k))
def wsub (W' W : List (Nat × Nat)) : Bool := W'.all (fun q => W.any (fun p => Nat.beq p.1 q.1 && Nat.beq p.2 q.2))
/-- h1 keeps the boxes, and has changed at most what W names -/
def JW (W : List (Nat × Nat)) (h h1 : Hp) : Prop := Bx h1 ∧ ∀ a k, wm W a k = false → h1 a k = h a k
theorem JW.refl {W : List (Nat × Nat)} {h : Hp} (hB : Bx h) : JW W h h := ⟨hB, fun _ _ _ => rfl⟩
theorem JW.set {W : List (Nat × Nat)} {h h1 : Hp} {a k : Nat} {x : Int32} (hJ : JW W h h1) (hw : wm W a k = true) (hb : B x (bx a k).1 (bx a k).2) : JW W h (ev_set h1 a k x) := by
  refine ⟨fun i j => ?_, fun i j hij => ?_⟩
  · unfold ev_set
    split
    · rename_i q; rw [q.1, q.2]; exact hb
    · exact hJ.1 i j
  · unfold ev_set
    split
    · rename_i q; rw [q.1, q.2, hw] at hij; cases hij
    · exact hJ.2 i j hij
theorem wsub_wm {W' W : List (Nat × Nat)} (hs : wsub W' W = true) {a k : Nat} (h : wm W a k = false) : wm W' a k = false := by
  cases e : wm W' a k with
  | false => rfl
  | true =>
    exfalso
    unfold wm at e
    obtain ⟨q, hq, hq2⟩ := List.any_eq_true.mp e
    obtain ⟨p, hp, hp2⟩ := List.any_eq_true.mp (List.all_eq_true.mp hs q hq)
    have e1 : Nat.beq p.1 q.1 = true := (Bool.and_eq_true _ _ ▸ hp2).1
    have e2 : Nat.beq p.2 q.2 = true := (Bool.and_eq_true _ _ ▸ hp2).2
    have f1 := Nat.eq_of_beq_eq_true e1
    have f2 := Nat.eq_of_beq_eq_true e2
    have : wm W a k = true := List.any_eq_true.mpr ⟨p, hp, by rw [f1, f2]; exact hq2⟩
    rw [this] at h
    cases h
theorem JW.call {W W' : List (Nat × Nat)} {h h1 h2 : Hp} (hJ : JW W h h1) (hc : JW W' h1 h2) (hs : wsub W' W = true) : JW W h h2 :=
  ⟨hc.1, fun a k q => (hc.2 a k (wsub_wm hs q)).trans (hJ.2 a k q)⟩
theorem JW.widen {W W' : List (Nat × Nat)} {h h1 : Hp} (hc : JW W' h h1) (hs : wsub W' W = true) : JW W h h1 := ⟨hc.1, fun a k q => hc.2 a k (wsub_wm hs q)⟩
theorem rd_s {h h1 : Hp} {a k : Nat} {x : Int32} (e : h1 = ev_set h a k x) : h1 a k = x := by rw [e]; exact ev_rd1 h a k x
theorem rd_o {h h1 : Hp} {a k i j : Nat} {x v : Int32} (e : h1 = ev_set h a k x) (p : h i j = v) (hne : (Nat.beq i a && Nat.beq j k) = false) : h1 i j = v := by
  rw [e]
  unfold ev_set
  split
  · rename_i q
    rw [q.1, q.2] at hne
    simp at hne
  · exact p
theorem rd_a {h h1 : Hp} {a k i j : Nat} {x v : Int32} (e : h1 = ev_set h a k x) (p : h i j = v) (hne : Nat.beq i a = false) : h1 i j = v := by
  rw [e]
  unfold ev_set
  split
  · rename_i q
    rw [q.1] at hne
    simp at hne
  · exact p
theorem rd_w {W : List (Nat × Nat)} {h h1 : Hp} {i j : Nat} {v : Int32} (e : JW W h h1) (p : h i j = v) (hw : wm W i j = false) : h1 i j = v := (e.2 i j hw).trans p
theorem rd_c {h h1 : Hp} {x y s d n i j : Nat} {v : Int32} (e : h1 = ev_cpy h x y s d n) (p : h i j = v) (hne : Nat.beq i y = false) : h1 i j = v := by
  rw [e]
  unfold ev_cpy
  split
  · rename_i q
    rw [q] at hne
    simp at hne
  · exact p
theorem B.at {h : Hp} {a k : Nat} {v : Int32} {l u : Int} (e : h a k = v) (b : B v l u) : B (h a k) l u := by rw [e]; exact b
/-! weak contracts: P nothing is written; J, N: what W names may be -/
abbrev QP (P : Int32 → Prop) (G : Geo) (h : Hp) : Pst := fun v G' h' => (∃ r, v = some (.int r) ∧ P r) ∧ G' = G ∧ h' = h
abbrev QJ (P : Int32 → Prop) (W : List (Nat × Nat)) (G : Geo) (h : Hp) : Pst := fun v G' h' => (∃ r, v = some (.int r) ∧ P r) ∧ G' = G ∧ JW W h h'
abbrev QN (W : List (Nat × Nat)) (G : Geo) (h : Hp) : Pst := fun v G' h' => v = none ∧ G' = G ∧ JW W h h'
abbrev QK (R : Hp → Prop) (W : List (Nat × Nat)) (G : Geo) (h : Hp) : Pst := fun v G' h' => v = none ∧ G' = G ∧ JW W h h' ∧ R h'
abbrev QI (R : Int32 → Hp → Prop) (W : List (Nat × Nat)) (G : Geo) (h : Hp) : Pst := fun v G' h' => (∃ r, v = some (.int r) ∧ R r h') ∧ G' = G ∧ JW W h h'
def EvK (mi : MI) (args : List Value) (G : Geo) (h : Hp) (R : Hp → Prop) (W : List (Nat × Nat)) : Prop := EvM mi args G h 0 0 (QK R W G h)
def EvI (mi : MI) (args : List Value) (G : Geo) (h : Hp) (R : Int32 → Hp → Prop) (W : List (Nat × Nat)) : Prop := EvM mi args G h 0 0 (QI R W G h)
def EvP (mi : MI) (args : List Value) (G : Geo) (h : Hp) (P : Int32 → Prop) : Prop := EvM mi args G h 0 0 (QP P G h)
def EvJ (mi : MI) (args : List Value) (G : Geo) (h : Hp) (P : Int32 → Prop) (W : List (Nat × Nat)) : Prop := EvM mi args G h 0 0 (QJ P W G h)
def EvN (mi : MI) (args : List Value) (G : Geo) (h : Hp) (W : List (Nat × Nat)) : Prop := EvM mi args G h 0 0 (QN W G h)
theorem EvD.p {mi : MI} {args : List Value} {G : Geo} {h : Hp} {r : Int32} {P : Int32 → Prop} (k : EvD mi args G h r h) (hp : P r) : EvP mi args G h P := EvM.mono k (fun _ _ _ q => ⟨⟨r, q.1, hp⟩, q.2.1, q.2.2⟩)
theorem EvU.n {mi : MI} {args : List Value} {G : Geo} {h h1 : Hp} {W : List (Nat × Nat)} (k : EvU mi args G h h1) (hJ : JW W h h1) : EvN mi args G h W := EvM.mono k (fun _ _ _ q => ⟨q.1, q.2.1, q.2.2 ▸ hJ⟩)
theorem EvP.mono {mi : MI} {args : List Value} {G : Geo} {h : Hp} {P P' : Int32 → Prop} (k : EvP mi args G h P) (hp : ∀ r, P r → P' r) : EvP mi args G h P' := EvM.mono k (fun _ _ _ q => ⟨q.1.elim (fun r e => ⟨r, e.1, hp r e.2⟩), q.2.1, q.2.2⟩)
theorem ev_rtB {r : Int32} (h : B r 0 1) : narrow .boolean (.int r) = .int r := (ev_z01 h.z01).1
section EVK
variable {mi ce : MI} {pc nx tg ix : Nat} {lo : List (Option Value)} {st : List Value} {G : Geo} {h h0 : Hp} {kc ks : Nat} {Q : Pst} {v1 v2 v3 v4 v5 v6 v7 : Value} {a c n : Nat} {P : Int32 → Prop} {R : Hp → Prop} {RI : Int32 → Hp → Prop} {W W' : List (Nat × Nat)} {x y : Int32} {xa xb ya yb l u : Int}
theorem ev_V0P (hd : ev_at mi pc = some (.invokevirtual ix, nx, tg)) (hn : nx = pc + 3) (hk : ev_lk mi.1.cls ix ce 0) (hst : Cond.instanceMethod ce.1 ∈ gwl ∧ Cond.selects ce.1.cls ce.1 ce.1 ∈ gwl) (ha : Nat.blt 0 a = true) (hz : ev_sh G a = some (.inl c)) (hc : (vwCl[c]?).map (fun q => q.1) = some ce.1.cls) (hR : ev_room mi ce) (hw : Nat.ble ((st.map fun v => v.category).sum) 8 = true) (hM : EvP ce (.ref a :: []) G h P) (kk : ∀ r, P r → EvQ mi nx lo (.int r :: st) G h kc ks Q) : EvQ mi pc lo (.ref a :: st) G h kc ks Q := by
  have h9 : EvQ mi pc lo (.ref a :: st) G h (0 + kc) (0 + ks) Q := ev_invV0 (As := []) hd hn hk hst ha hz hc rfl hR (Nat.le_of_ble_eq_true hw) hM (fun v G' h' hq _ => by
    obtain ⟨⟨r, rfl, hp⟩, rfl, rfl⟩ := hq
    exact kk r hp)
  rw [Nat.zero_add, Nat.zero_add] at h9
  exact h9
theorem ev_V0J (hJ : JW W h0 h) (hs : wsub W' W = true) (hd : ev_at mi pc = some (.invokevirtual ix, nx, tg)) (hn : nx = pc + 3) (hk : ev_lk mi.1.cls ix ce 0) (hst : Cond.instanceMethod ce.1 ∈ gwl ∧ Cond.selects ce.1.cls ce.1 ce.1 ∈ gwl) (ha : Nat.blt 0 a = true) (hz : ev_sh G a = some (.inl c)) (hc : (vwCl[c]?).map (fun q => q.1) = some ce.1.cls) (hR : ev_room mi ce) (hw : Nat.ble ((st.map fun v => v.category).sum) 8 = true) (hM : EvJ ce (.ref a :: []) G h P W') (kk : ∀ r h1, P r → JW W h0 h1 → JW W' h h1 → EvQ mi nx lo (.int r :: st) G h1 kc ks Q) : EvQ mi pc lo (.ref a :: st) G h kc ks Q := by
  have h9 : EvQ mi pc lo (.ref a :: st) G h (0 + kc) (0 + ks) Q := ev_invV0 (As := []) hd hn hk hst ha hz hc rfl hR (Nat.le_of_ble_eq_true hw) hM (fun v G' h' hq _ => by
    obtain ⟨⟨r, rfl, hp⟩, rfl, hq⟩ := hq
    exact kk r h' hp (hJ.call hq hs) hq)
  rw [Nat.zero_add, Nat.zero_add] at h9
  exact h9
theorem ev_V0N (hJ : JW W h0 h) (hs : wsub W' W = true) (hd : ev_at mi pc = some (.invokevirtual ix, nx, tg)) (hn : nx = pc + 3) (hk : ev_lk mi.1.cls ix ce 0) (hst : Cond.instanceMethod ce.1 ∈ gwl ∧ Cond.selects ce.1.cls ce.1 ce.1 ∈ gwl) (ha : Nat.blt 0 a = true) (hz : ev_sh G a = some (.inl c)) (hc : (vwCl[c]?).map (fun q => q.1) = some ce.1.cls) (hR : ev_room mi ce) (hw : Nat.ble ((st.map fun v => v.category).sum) 8 = true) (hM : EvN ce (.ref a :: []) G h W') (kk : ∀ h1, JW W h0 h1 → JW W' h h1 → EvQ mi nx lo st G h1 kc ks Q) : EvQ mi pc lo (.ref a :: st) G h kc ks Q := by
  have h9 : EvQ mi pc lo (.ref a :: st) G h (0 + kc) (0 + ks) Q := ev_invV0 (As := []) hd hn hk hst ha hz hc rfl hR (Nat.le_of_ble_eq_true hw) hM (fun v G' h' hq _ => by
    obtain ⟨rfl, rfl, hq⟩ := hq
    exact kk h' (hJ.call hq hs) hq)
  rw [Nat.zero_add, Nat.zero_add] at h9
  exact h9
theorem ev_S1P (hd : ev_at mi pc = some (.invokestatic ix, nx, tg)) (hn : nx = pc + 3) (hk : ev_lk mi.1.cls ix ce 1) (hst : Cond.static ce.1 ∈ gwl) (hR : ev_room mi ce) (hw : Nat.ble ((st.map fun v => v.category).sum) 8 = true) (hM : EvP ce [v1] G h P) (kk : ∀ r, P r → EvQ mi nx lo (.int r :: st) G h kc ks Q) : EvQ mi pc lo (v1 :: st) G h kc ks Q := by
  have h9 : EvQ mi pc lo (v1 :: st) G h (0 + kc) (0 + ks) Q := ev_invS0 (As := [v1]) hd hn hk hst rfl hR (Nat.le_of_ble_eq_true hw) hM (fun v G' h' hq _ => by
    obtain ⟨⟨r, rfl, hp⟩, rfl, rfl⟩ := hq
    exact kk r hp)
  rw [Nat.zero_add, Nat.zero_add] at h9
  exact h9
theorem ev_SN1P (hd : ev_at mi pc = some (.invokestatic ix, nx, tg)) (hn : nx = pc + 3) (hk : ev_ln mi.1.cls ix ce 1) (hst : Cond.static ce.1 ∈ gwl) (hR : ev_room mi ce) (hw : Nat.ble ((st.map fun v => v.category).sum) 8 = true) (hM : EvP ce [v1] G h P) (kk : ∀ r, P r → EvQ mi nx lo (.int r :: st) G h kc ks Q) : EvQ mi pc lo (v1 :: st) G h kc ks Q := by
  have h9 : EvQ mi pc lo (v1 :: st) G h (0 + kc) (0 + ks) Q := ev_invSN0 (As := [v1]) hd hn hk hst rfl hR (Nat.le_of_ble_eq_true hw) hM (fun v G' h' hq _ => by
    obtain ⟨⟨r, rfl, hp⟩, rfl, rfl⟩ := hq
    exact kk r hp)
  rw [Nat.zero_add, Nat.zero_add] at h9
  exact h9
theorem ev_V1P (hd : ev_at mi pc = some (.invokevirtual ix, nx, tg)) (hn : nx = pc + 3) (hk : ev_lk mi.1.cls ix ce 1) (hst : Cond.instanceMethod ce.1 ∈ gwl ∧ Cond.selects ce.1.cls ce.1 ce.1 ∈ gwl) (ha : Nat.blt 0 a = true) (hz : ev_sh G a = some (.inl c)) (hc : (vwCl[c]?).map (fun q => q.1) = some ce.1.cls) (hR : ev_room mi ce) (hw : Nat.ble ((st.map fun v => v.category).sum) 8 = true) (hM : EvP ce (.ref a :: [v1]) G h P) (kk : ∀ r, P r → EvQ mi nx lo (.int r :: st) G h kc ks Q) : EvQ mi pc lo (v1 :: .ref a :: st) G h kc ks Q := by
  have h9 : EvQ mi pc lo (v1 :: .ref a :: st) G h (0 + kc) (0 + ks) Q := ev_invV0 (As := [v1]) hd hn hk hst ha hz hc rfl hR (Nat.le_of_ble_eq_true hw) hM (fun v G' h' hq _ => by
    obtain ⟨⟨r, rfl, hp⟩, rfl, rfl⟩ := hq
    exact kk r hp)
  rw [Nat.zero_add, Nat.zero_add] at h9
  exact h9
theorem ev_V1J (hJ : JW W h0 h) (hs : wsub W' W = true) (hd : ev_at mi pc = some (.invokevirtual ix, nx, tg)) (hn : nx = pc + 3) (hk : ev_lk mi.1.cls ix ce 1) (hst : Cond.instanceMethod ce.1 ∈ gwl ∧ Cond.selects ce.1.cls ce.1 ce.1 ∈ gwl) (ha : Nat.blt 0 a = true) (hz : ev_sh G a = some (.inl c)) (hc : (vwCl[c]?).map (fun q => q.1) = some ce.1.cls) (hR : ev_room mi ce) (hw : Nat.ble ((st.map fun v => v.category).sum) 8 = true) (hM : EvJ ce (.ref a :: [v1]) G h P W') (kk : ∀ r h1, P r → JW W h0 h1 → JW W' h h1 → EvQ mi nx lo (.int r :: st) G h1 kc ks Q) : EvQ mi pc lo (v1 :: .ref a :: st) G h kc ks Q := by
  have h9 : EvQ mi pc lo (v1 :: .ref a :: st) G h (0 + kc) (0 + ks) Q := ev_invV0 (As := [v1]) hd hn hk hst ha hz hc rfl hR (Nat.le_of_ble_eq_true hw) hM (fun v G' h' hq _ => by
    obtain ⟨⟨r, rfl, hp⟩, rfl, hq⟩ := hq
    exact kk r h' hp (hJ.call hq hs) hq)
  rw [Nat.zero_add, Nat.zero_add] at h9
  exact h9
theorem ev_V1N (hJ : JW W h0 h) (hs : wsub W' W = true) (hd : ev_at mi pc = some (.invokevirtual ix, nx, tg)) (hn : nx = pc + 3) (hk : ev_lk mi.1.cls ix ce 1) (hst : Cond.instanceMethod ce.1 ∈ gwl ∧ Cond.selects ce.1.cls ce.1 ce.1 ∈ gwl) (ha : Nat.blt 0 a = true) (hz : ev_sh G a = some (.inl c)) (hc : (vwCl[c]?).map (fun q => q.1) = some ce.1.cls) (hR : ev_room mi ce) (hw : Nat.ble ((st.map fun v => v.category).sum) 8 = true) (hM : EvN ce (.ref a :: [v1]) G h W') (kk : ∀ h1, JW W h0 h1 → JW W' h h1 → EvQ mi nx lo st G h1 kc ks Q) : EvQ mi pc lo (v1 :: .ref a :: st) G h kc ks Q := by
  have h9 : EvQ mi pc lo (v1 :: .ref a :: st) G h (0 + kc) (0 + ks) Q := ev_invV0 (As := [v1]) hd hn hk hst ha hz hc rfl hR (Nat.le_of_ble_eq_true hw) hM (fun v G' h' hq _ => by
    obtain ⟨rfl, rfl, hq⟩ := hq
    exact kk h' (hJ.call hq hs) hq)
  rw [Nat.zero_add, Nat.zero_add] at h9
  exact h9
theorem ev_S2P (hd : ev_at mi pc = some (.invokestatic ix, nx, tg)) (hn : nx = pc + 3) (hk : ev_lk mi.1.cls ix ce 2) (hst : Cond.static ce.1 ∈ gwl) (hR : ev_room mi ce) (hw : Nat.ble ((st.map fun v => v.category).sum) 8 = true) (hM : EvP ce [v1, v2] G h P) (kk : ∀ r, P r → EvQ mi nx lo (.int r :: st) G h kc ks Q) : EvQ mi pc lo (v2 :: v1 :: st) G h kc ks Q := by
  have h9 : EvQ mi pc lo (v2 :: v1 :: st) G h (0 + kc) (0 + ks) Q := ev_invS0 (As := [v1, v2]) hd hn hk hst rfl hR (Nat.le_of_ble_eq_true hw) hM (fun v G' h' hq _ => by
    obtain ⟨⟨r, rfl, hp⟩, rfl, rfl⟩ := hq
    exact kk r hp)
  rw [Nat.zero_add, Nat.zero_add] at h9
  exact h9
theorem ev_S2N (hJ : JW W h0 h) (hs : wsub W' W = true) (hd : ev_at mi pc = some (.invokestatic ix, nx, tg)) (hn : nx = pc + 3) (hk : ev_lk mi.1.cls ix ce 2) (hst : Cond.static ce.1 ∈ gwl) (hR : ev_room mi ce) (hw : Nat.ble ((st.map fun v => v.category).sum) 8 = true) (hM : EvN ce [v1, v2] G h W') (kk : ∀ h1, JW W h0 h1 → JW W' h h1 → EvQ mi nx lo st G h1 kc ks Q) : EvQ mi pc lo (v2 :: v1 :: st) G h kc ks Q := by
  have h9 : EvQ mi pc lo (v2 :: v1 :: st) G h (0 + kc) (0 + ks) Q := ev_invS0 (As := [v1, v2]) hd hn hk hst rfl hR (Nat.le_of_ble_eq_true hw) hM (fun v G' h' hq _ => by
    obtain ⟨rfl, rfl, hq⟩ := hq
    exact kk h' (hJ.call hq hs) hq)
  rw [Nat.zero_add, Nat.zero_add] at h9
  exact h9
theorem ev_V2P (hd : ev_at mi pc = some (.invokevirtual ix, nx, tg)) (hn : nx = pc + 3) (hk : ev_lk mi.1.cls ix ce 2) (hst : Cond.instanceMethod ce.1 ∈ gwl ∧ Cond.selects ce.1.cls ce.1 ce.1 ∈ gwl) (ha : Nat.blt 0 a = true) (hz : ev_sh G a = some (.inl c)) (hc : (vwCl[c]?).map (fun q => q.1) = some ce.1.cls) (hR : ev_room mi ce) (hw : Nat.ble ((st.map fun v => v.category).sum) 8 = true) (hM : EvP ce (.ref a :: [v1, v2]) G h P) (kk : ∀ r, P r → EvQ mi nx lo (.int r :: st) G h kc ks Q) : EvQ mi pc lo (v2 :: v1 :: .ref a :: st) G h kc ks Q := by
  have h9 : EvQ mi pc lo (v2 :: v1 :: .ref a :: st) G h (0 + kc) (0 + ks) Q := ev_invV0 (As := [v1, v2]) hd hn hk hst ha hz hc rfl hR (Nat.le_of_ble_eq_true hw) hM (fun v G' h' hq _ => by
    obtain ⟨⟨r, rfl, hp⟩, rfl, rfl⟩ := hq
    exact kk r hp)
  rw [Nat.zero_add, Nat.zero_add] at h9
  exact h9
theorem ev_V2J (hJ : JW W h0 h) (hs : wsub W' W = true) (hd : ev_at mi pc = some (.invokevirtual ix, nx, tg)) (hn : nx = pc + 3) (hk : ev_lk mi.1.cls ix ce 2) (hst : Cond.instanceMethod ce.1 ∈ gwl ∧ Cond.selects ce.1.cls ce.1 ce.1 ∈ gwl) (ha : Nat.blt 0 a = true) (hz : ev_sh G a = some (.inl c)) (hc : (vwCl[c]?).map (fun q => q.1) = some ce.1.cls) (hR : ev_room mi ce) (hw : Nat.ble ((st.map fun v => v.category).sum) 8 = true) (hM : EvJ ce (.ref a :: [v1, v2]) G h P W') (kk : ∀ r h1, P r → JW W h0 h1 → JW W' h h1 → EvQ mi nx lo (.int r :: st) G h1 kc ks Q) : EvQ mi pc lo (v2 :: v1 :: .ref a :: st) G h kc ks Q := by
  have h9 : EvQ mi pc lo (v2 :: v1 :: .ref a :: st) G h (0 + kc) (0 + ks) Q := ev_invV0 (As := [v1, v2]) hd hn hk hst ha hz hc rfl hR (Nat.le_of_ble_eq_true hw) hM (fun v G' h' hq _ => by
    obtain ⟨⟨r, rfl, hp⟩, rfl, hq⟩ := hq
    exact kk r h' hp (hJ.call hq hs) hq)
  rw [Nat.zero_add, Nat.zero_add] at h9
  exact h9
theorem ev_V2N (hJ : JW W h0 h) (hs : wsub W' W = true) (hd : ev_at mi pc = some (.invokevirtual ix, nx, tg)) (hn : nx = pc + 3) (hk : ev_lk mi.1.cls ix ce 2) (hst : Cond.instanceMethod ce.1 ∈ gwl ∧ Cond.selects ce.1.cls ce.1 ce.1 ∈ gwl) (ha : Nat.blt 0 a = true) (hz : ev_sh G a = some (.inl c)) (hc : (vwCl[c]?).map (fun q => q.1) = some ce.1.cls) (hR : ev_room mi ce) (hw : Nat.ble ((st.map fun v => v.category).sum) 8 = true) (hM : EvN ce (.ref a :: [v1, v2]) G h W') (kk : ∀ h1, JW W h0 h1 → JW W' h h1 → EvQ mi nx lo st G h1 kc ks Q) : EvQ mi pc lo (v2 :: v1 :: .ref a :: st) G h kc ks Q := by
  have h9 : EvQ mi pc lo (v2 :: v1 :: .ref a :: st) G h (0 + kc) (0 + ks) Q := ev_invV0 (As := [v1, v2]) hd hn hk hst ha hz hc rfl hR (Nat.le_of_ble_eq_true hw) hM (fun v G' h' hq _ => by
    obtain ⟨rfl, rfl, hq⟩ := hq
    exact kk h' (hJ.call hq hs) hq)
  rw [Nat.zero_add, Nat.zero_add] at h9
  exact h9
theorem ev_S3P (hd : ev_at mi pc = some (.invokestatic ix, nx, tg)) (hn : nx = pc + 3) (hk : ev_lk mi.1.cls ix ce 3) (hst : Cond.static ce.1 ∈ gwl) (hR : ev_room mi ce) (hw : Nat.ble ((st.map fun v => v.category).sum) 8 = true) (hM : EvP ce [v1, v2, v3] G h P) (kk : ∀ r, P r → EvQ mi nx lo (.int r :: st) G h kc ks Q) : EvQ mi pc lo (v3 :: v2 :: v1 :: st) G h kc ks Q := by
  have h9 : EvQ mi pc lo (v3 :: v2 :: v1 :: st) G h (0 + kc) (0 + ks) Q := ev_invS0 (As := [v1, v2, v3]) hd hn hk hst rfl hR (Nat.le_of_ble_eq_true hw) hM (fun v G' h' hq _ => by
    obtain ⟨⟨r, rfl, hp⟩, rfl, rfl⟩ := hq
    exact kk r hp)
  rw [Nat.zero_add, Nat.zero_add] at h9
  exact h9
theorem ev_S3N (hJ : JW W h0 h) (hs : wsub W' W = true) (hd : ev_at mi pc = some (.invokestatic ix, nx, tg)) (hn : nx = pc + 3) (hk : ev_lk mi.1.cls ix ce 3) (hst : Cond.static ce.1 ∈ gwl) (hR : ev_room mi ce) (hw : Nat.ble ((st.map fun v => v.category).sum) 8 = true) (hM : EvN ce [v1, v2, v3] G h W') (kk : ∀ h1, JW W h0 h1 → JW W' h h1 → EvQ mi nx lo st G h1 kc ks Q) : EvQ mi pc lo (v3 :: v2 :: v1 :: st) G h kc ks Q := by
  have h9 : EvQ mi pc lo (v3 :: v2 :: v1 :: st) G h (0 + kc) (0 + ks) Q := ev_invS0 (As := [v1, v2, v3]) hd hn hk hst rfl hR (Nat.le_of_ble_eq_true hw) hM (fun v G' h' hq _ => by
    obtain ⟨rfl, rfl, hq⟩ := hq
    exact kk h' (hJ.call hq hs) hq)
  rw [Nat.zero_add, Nat.zero_add] at h9
  exact h9
theorem ev_SN3P (hd : ev_at mi pc = some (.invokestatic ix, nx, tg)) (hn : nx = pc + 3) (hk : ev_ln mi.1.cls ix ce 3) (hst : Cond.static ce.1 ∈ gwl) (hR : ev_room mi ce) (hw : Nat.ble ((st.map fun v => v.category).sum) 8 = true) (hM : EvP ce [v1, v2, v3] G h P) (kk : ∀ r, P r → EvQ mi nx lo (.int r :: st) G h kc ks Q) : EvQ mi pc lo (v3 :: v2 :: v1 :: st) G h kc ks Q := by
  have h9 : EvQ mi pc lo (v3 :: v2 :: v1 :: st) G h (0 + kc) (0 + ks) Q := ev_invSN0 (As := [v1, v2, v3]) hd hn hk hst rfl hR (Nat.le_of_ble_eq_true hw) hM (fun v G' h' hq _ => by
    obtain ⟨⟨r, rfl, hp⟩, rfl, rfl⟩ := hq
    exact kk r hp)
  rw [Nat.zero_add, Nat.zero_add] at h9
  exact h9
theorem ev_V3P (hd : ev_at mi pc = some (.invokevirtual ix, nx, tg)) (hn : nx = pc + 3) (hk : ev_lk mi.1.cls ix ce 3) (hst : Cond.instanceMethod ce.1 ∈ gwl ∧ Cond.selects ce.1.cls ce.1 ce.1 ∈ gwl) (ha : Nat.blt 0 a = true) (hz : ev_sh G a = some (.inl c)) (hc : (vwCl[c]?).map (fun q => q.1) = some ce.1.cls) (hR : ev_room mi ce) (hw : Nat.ble ((st.map fun v => v.category).sum) 8 = true) (hM : EvP ce (.ref a :: [v1, v2, v3]) G h P) (kk : ∀ r, P r → EvQ mi nx lo (.int r :: st) G h kc ks Q) : EvQ mi pc lo (v3 :: v2 :: v1 :: .ref a :: st) G h kc ks Q := by
  have h9 : EvQ mi pc lo (v3 :: v2 :: v1 :: .ref a :: st) G h (0 + kc) (0 + ks) Q := ev_invV0 (As := [v1, v2, v3]) hd hn hk hst ha hz hc rfl hR (Nat.le_of_ble_eq_true hw) hM (fun v G' h' hq _ => by
    obtain ⟨⟨r, rfl, hp⟩, rfl, rfl⟩ := hq
    exact kk r hp)
  rw [Nat.zero_add, Nat.zero_add] at h9
  exact h9
theorem ev_V3J (hJ : JW W h0 h) (hs : wsub W' W = true) (hd : ev_at mi pc = some (.invokevirtual ix, nx, tg)) (hn : nx = pc + 3) (hk : ev_lk mi.1.cls ix ce 3) (hst : Cond.instanceMethod ce.1 ∈ gwl ∧ Cond.selects ce.1.cls ce.1 ce.1 ∈ gwl) (ha : Nat.blt 0 a = true) (hz : ev_sh G a = some (.inl c)) (hc : (vwCl[c]?).map (fun q => q.1) = some ce.1.cls) (hR : ev_room mi ce) (hw : Nat.ble ((st.map fun v => v.category).sum) 8 = true) (hM : EvJ ce (.ref a :: [v1, v2, v3]) G h P W') (kk : ∀ r h1, P r → JW W h0 h1 → JW W' h h1 → EvQ mi nx lo (.int r :: st) G h1 kc ks Q) : EvQ mi pc lo (v3 :: v2 :: v1 :: .ref a :: st) G h kc ks Q := by
  have h9 : EvQ mi pc lo (v3 :: v2 :: v1 :: .ref a :: st) G h (0 + kc) (0 + ks) Q := ev_invV0 (As := [v1, v2, v3]) hd hn hk hst ha hz hc rfl hR (Nat.le_of_ble_eq_true hw) hM (fun v G' h' hq _ => by
    obtain ⟨⟨r, rfl, hp⟩, rfl, hq⟩ := hq
    exact kk r h' hp (hJ.call hq hs) hq)
  rw [Nat.zero_add, Nat.zero_add] at h9
  exact h9
theorem ev_V3N (hJ : JW W h0 h) (hs : wsub W' W = true) (hd : ev_at mi pc = some (.invokevirtual ix, nx, tg)) (hn : nx = pc + 3) (hk : ev_lk mi.1.cls ix ce 3) (hst : Cond.instanceMethod ce.1 ∈ gwl ∧ Cond.selects ce.1.cls ce.1 ce.1 ∈ gwl) (ha : Nat.blt 0 a = true) (hz : ev_sh G a = some (.inl c)) (hc : (vwCl[c]?).map (fun q => q.1) = some ce.1.cls) (hR : ev_room mi ce) (hw : Nat.ble ((st.map fun v => v.category).sum) 8 = true) (hM : EvN ce (.ref a :: [v1, v2, v3]) G h W') (kk : ∀ h1, JW W h0 h1 → JW W' h h1 → EvQ mi nx lo st G h1 kc ks Q) : EvQ mi pc lo (v3 :: v2 :: v1 :: .ref a :: st) G h kc ks Q := by
  have h9 : EvQ mi pc lo (v3 :: v2 :: v1 :: .ref a :: st) G h (0 + kc) (0 + ks) Q := ev_invV0 (As := [v1, v2, v3]) hd hn hk hst ha hz hc rfl hR (Nat.le_of_ble_eq_true hw) hM (fun v G' h' hq _ => by
    obtain ⟨rfl, rfl, hq⟩ := hq
    exact kk h' (hJ.call hq hs) hq)
  rw [Nat.zero_add, Nat.zero_add] at h9
  exact h9
theorem ev_S4N (hJ : JW W h0 h) (hs : wsub W' W = true) (hd : ev_at mi pc = some (.invokestatic ix, nx, tg)) (hn : nx = pc + 3) (hk : ev_lk mi.1.cls ix ce 4) (hst : Cond.static ce.1 ∈ gwl) (hR : ev_room mi ce) (hw : Nat.ble ((st.map fun v => v.category).sum) 8 = true) (hM : EvN ce [v1, v2, v3, v4] G h W') (kk : ∀ h1, JW W h0 h1 → JW W' h h1 → EvQ mi nx lo st G h1 kc ks Q) : EvQ mi pc lo (v4 :: v3 :: v2 :: v1 :: st) G h kc ks Q := by
  have h9 : EvQ mi pc lo (v4 :: v3 :: v2 :: v1 :: st) G h (0 + kc) (0 + ks) Q := ev_invS0 (As := [v1, v2, v3, v4]) hd hn hk hst rfl hR (Nat.le_of_ble_eq_true hw) hM (fun v G' h' hq _ => by
    obtain ⟨rfl, rfl, hq⟩ := hq
    exact kk h' (hJ.call hq hs) hq)
  rw [Nat.zero_add, Nat.zero_add] at h9
  exact h9
theorem ev_V4P (hd : ev_at mi pc = some (.invokevirtual ix, nx, tg)) (hn : nx = pc + 3) (hk : ev_lk mi.1.cls ix ce 4) (hst : Cond.instanceMethod ce.1 ∈ gwl ∧ Cond.selects ce.1.cls ce.1 ce.1 ∈ gwl) (ha : Nat.blt 0 a = true) (hz : ev_sh G a = some (.inl c)) (hc : (vwCl[c]?).map (fun q => q.1) = some ce.1.cls) (hR : ev_room mi ce) (hw : Nat.ble ((st.map fun v => v.category).sum) 8 = true) (hM : EvP ce (.ref a :: [v1, v2, v3, v4]) G h P) (kk : ∀ r, P r → EvQ mi nx lo (.int r :: st) G h kc ks Q) : EvQ mi pc lo (v4 :: v3 :: v2 :: v1 :: .ref a :: st) G h kc ks Q := by
  have h9 : EvQ mi pc lo (v4 :: v3 :: v2 :: v1 :: .ref a :: st) G h (0 + kc) (0 + ks) Q := ev_invV0 (As := [v1, v2, v3, v4]) hd hn hk hst ha hz hc rfl hR (Nat.le_of_ble_eq_true hw) hM (fun v G' h' hq _ => by
    obtain ⟨⟨r, rfl, hp⟩, rfl, rfl⟩ := hq
    exact kk r hp)
  rw [Nat.zero_add, Nat.zero_add] at h9
  exact h9
theorem ev_V4J (hJ : JW W h0 h) (hs : wsub W' W = true) (hd : ev_at mi pc = some (.invokevirtual ix, nx, tg)) (hn : nx = pc + 3) (hk : ev_lk mi.1.cls ix ce 4) (hst : Cond.instanceMethod ce.1 ∈ gwl ∧ Cond.selects ce.1.cls ce.1 ce.1 ∈ gwl) (ha : Nat.blt 0 a = true) (hz : ev_sh G a = some (.inl c)) (hc : (vwCl[c]?).map (fun q => q.1) = some ce.1.cls) (hR : ev_room mi ce) (hw : Nat.ble ((st.map fun v => v.category).sum) 8 = true) (hM : EvJ ce (.ref a :: [v1, v2, v3, v4]) G h P W') (kk : ∀ r h1, P r → JW W h0 h1 → JW W' h h1 → EvQ mi nx lo (.int r :: st) G h1 kc ks Q) : EvQ mi pc lo (v4 :: v3 :: v2 :: v1 :: .ref a :: st) G h kc ks Q := by
  have h9 : EvQ mi pc lo (v4 :: v3 :: v2 :: v1 :: .ref a :: st) G h (0 + kc) (0 + ks) Q := ev_invV0 (As := [v1, v2, v3, v4]) hd hn hk hst ha hz hc rfl hR (Nat.le_of_ble_eq_true hw) hM (fun v G' h' hq _ => by
    obtain ⟨⟨r, rfl, hp⟩, rfl, hq⟩ := hq
    exact kk r h' hp (hJ.call hq hs) hq)
  rw [Nat.zero_add, Nat.zero_add] at h9
  exact h9
theorem ev_V4N (hJ : JW W h0 h) (hs : wsub W' W = true) (hd : ev_at mi pc = some (.invokevirtual ix, nx, tg)) (hn : nx = pc + 3) (hk : ev_lk mi.1.cls ix ce 4) (hst : Cond.instanceMethod ce.1 ∈ gwl ∧ Cond.selects ce.1.cls ce.1 ce.1 ∈ gwl) (ha : Nat.blt 0 a = true) (hz : ev_sh G a = some (.inl c)) (hc : (vwCl[c]?).map (fun q => q.1) = some ce.1.cls) (hR : ev_room mi ce) (hw : Nat.ble ((st.map fun v => v.category).sum) 8 = true) (hM : EvN ce (.ref a :: [v1, v2, v3, v4]) G h W') (kk : ∀ h1, JW W h0 h1 → JW W' h h1 → EvQ mi nx lo st G h1 kc ks Q) : EvQ mi pc lo (v4 :: v3 :: v2 :: v1 :: .ref a :: st) G h kc ks Q := by
  have h9 : EvQ mi pc lo (v4 :: v3 :: v2 :: v1 :: .ref a :: st) G h (0 + kc) (0 + ks) Q := ev_invV0 (As := [v1, v2, v3, v4]) hd hn hk hst ha hz hc rfl hR (Nat.le_of_ble_eq_true hw) hM (fun v G' h' hq _ => by
    obtain ⟨rfl, rfl, hq⟩ := hq
    exact kk h' (hJ.call hq hs) hq)
  rw [Nat.zero_add, Nat.zero_add] at h9
  exact h9
theorem ev_V5P (hd : ev_at mi pc = some (.invokevirtual ix, nx, tg)) (hn : nx = pc + 3) (hk : ev_lk mi.1.cls ix ce 5) (hst : Cond.instanceMethod ce.1 ∈ gwl ∧ Cond.selects ce.1.cls ce.1 ce.1 ∈ gwl) (ha : Nat.blt 0 a = true) (hz : ev_sh G a = some (.inl c)) (hc : (vwCl[c]?).map (fun q => q.1) = some ce.1.cls) (hR : ev_room mi ce) (hw : Nat.ble ((st.map fun v => v.category).sum) 8 = true) (hM : EvP ce (.ref a :: [v1, v2, v3, v4, v5]) G h P) (kk : ∀ r, P r → EvQ mi nx lo (.int r :: st) G h kc ks Q) : EvQ mi pc lo (v5 :: v4 :: v3 :: v2 :: v1 :: .ref a :: st) G h kc ks Q := by
  have h9 : EvQ mi pc lo (v5 :: v4 :: v3 :: v2 :: v1 :: .ref a :: st) G h (0 + kc) (0 + ks) Q := ev_invV0 (As := [v1, v2, v3, v4, v5]) hd hn hk hst ha hz hc rfl hR (Nat.le_of_ble_eq_true hw) hM (fun v G' h' hq _ => by
    obtain ⟨⟨r, rfl, hp⟩, rfl, rfl⟩ := hq
    exact kk r hp)
  rw [Nat.zero_add, Nat.zero_add] at h9
  exact h9
theorem ev_V5J (hJ : JW W h0 h) (hs : wsub W' W = true) (hd : ev_at mi pc = some (.invokevirtual ix, nx, tg)) (hn : nx = pc + 3) (hk : ev_lk mi.1.cls ix ce 5) (hst : Cond.instanceMethod ce.1 ∈ gwl ∧ Cond.selects ce.1.cls ce.1 ce.1 ∈ gwl) (ha : Nat.blt 0 a = true) (hz : ev_sh G a = some (.inl c)) (hc : (vwCl[c]?).map (fun q => q.1) = some ce.1.cls) (hR : ev_room mi ce) (hw : Nat.ble ((st.map fun v => v.category).sum) 8 = true) (hM : EvJ ce (.ref a :: [v1, v2, v3, v4, v5]) G h P W') (kk : ∀ r h1, P r → JW W h0 h1 → JW W' h h1 → EvQ mi nx lo (.int r :: st) G h1 kc ks Q) : EvQ mi pc lo (v5 :: v4 :: v3 :: v2 :: v1 :: .ref a :: st) G h kc ks Q := by
  have h9 : EvQ mi pc lo (v5 :: v4 :: v3 :: v2 :: v1 :: .ref a :: st) G h (0 + kc) (0 + ks) Q := ev_invV0 (As := [v1, v2, v3, v4, v5]) hd hn hk hst ha hz hc rfl hR (Nat.le_of_ble_eq_true hw) hM (fun v G' h' hq _ => by
    obtain ⟨⟨r, rfl, hp⟩, rfl, hq⟩ := hq
    exact kk r h' hp (hJ.call hq hs) hq)
  rw [Nat.zero_add, Nat.zero_add] at h9
  exact h9
theorem ev_V5N (hJ : JW W h0 h) (hs : wsub W' W = true) (hd : ev_at mi pc = some (.invokevirtual ix, nx, tg)) (hn : nx = pc + 3) (hk : ev_lk mi.1.cls ix ce 5) (hst : Cond.instanceMethod ce.1 ∈ gwl ∧ Cond.selects ce.1.cls ce.1 ce.1 ∈ gwl) (ha : Nat.blt 0 a = true) (hz : ev_sh G a = some (.inl c)) (hc : (vwCl[c]?).map (fun q => q.1) = some ce.1.cls) (hR : ev_room mi ce) (hw : Nat.ble ((st.map fun v => v.category).sum) 8 = true) (hM : EvN ce (.ref a :: [v1, v2, v3, v4, v5]) G h W') (kk : ∀ h1, JW W h0 h1 → JW W' h h1 → EvQ mi nx lo st G h1 kc ks Q) : EvQ mi pc lo (v5 :: v4 :: v3 :: v2 :: v1 :: .ref a :: st) G h kc ks Q := by
  have h9 : EvQ mi pc lo (v5 :: v4 :: v3 :: v2 :: v1 :: .ref a :: st) G h (0 + kc) (0 + ks) Q := ev_invV0 (As := [v1, v2, v3, v4, v5]) hd hn hk hst ha hz hc rfl hR (Nat.le_of_ble_eq_true hw) hM (fun v G' h' hq _ => by
    obtain ⟨rfl, rfl, hq⟩ := hq
    exact kk h' (hJ.call hq hs) hq)
  rw [Nat.zero_add, Nat.zero_add] at h9
  exact h9
theorem ev_V6J (hJ : JW W h0 h) (hs : wsub W' W = true) (hd : ev_at mi pc = some (.invokevirtual ix, nx, tg)) (hn : nx = pc + 3) (hk : ev_lk mi.1.cls ix ce 6) (hst : Cond.instanceMethod ce.1 ∈ gwl ∧ Cond.selects ce.1.cls ce.1 ce.1 ∈ gwl) (ha : Nat.blt 0 a = true) (hz : ev_sh G a = some (.inl c)) (hc : (vwCl[c]?).map (fun q => q.1) = some ce.1.cls) (hR : ev_room mi ce) (hw : Nat.ble ((st.map fun v => v.category).sum) 8 = true) (hM : EvJ ce (.ref a :: [v1, v2, v3, v4, v5, v6]) G h P W') (kk : ∀ r h1, P r → JW W h0 h1 → JW W' h h1 → EvQ mi nx lo (.int r :: st) G h1 kc ks Q) : EvQ mi pc lo (v6 :: v5 :: v4 :: v3 :: v2 :: v1 :: .ref a :: st) G h kc ks Q := by
  have h9 : EvQ mi pc lo (v6 :: v5 :: v4 :: v3 :: v2 :: v1 :: .ref a :: st) G h (0 + kc) (0 + ks) Q := ev_invV0 (As := [v1, v2, v3, v4, v5, v6]) hd hn hk hst ha hz hc rfl hR (Nat.le_of_ble_eq_true hw) hM (fun v G' h' hq _ => by
    obtain ⟨⟨r, rfl, hp⟩, rfl, hq⟩ := hq
    exact kk r h' hp (hJ.call hq hs) hq)
  rw [Nat.zero_add, Nat.zero_add] at h9
  exact h9
theorem ev_V7J (hJ : JW W h0 h) (hs : wsub W' W = true) (hd : ev_at mi pc = some (.invokevirtual ix, nx, tg)) (hn : nx = pc + 3) (hk : ev_lk mi.1.cls ix ce 7) (hst : Cond.instanceMethod ce.1 ∈ gwl ∧ Cond.selects ce.1.cls ce.1 ce.1 ∈ gwl) (ha : Nat.blt 0 a = true) (hz : ev_sh G a = some (.inl c)) (hc : (vwCl[c]?).map (fun q => q.1) = some ce.1.cls) (hR : ev_room mi ce) (hw : Nat.ble ((st.map fun v => v.category).sum) 8 = true) (hM : EvJ ce (.ref a :: [v1, v2, v3, v4, v5, v6, v7]) G h P W') (kk : ∀ r h1, P r → JW W h0 h1 → JW W' h h1 → EvQ mi nx lo (.int r :: st) G h1 kc ks Q) : EvQ mi pc lo (v7 :: v6 :: v5 :: v4 :: v3 :: v2 :: v1 :: .ref a :: st) G h kc ks Q := by
  have h9 : EvQ mi pc lo (v7 :: v6 :: v5 :: v4 :: v3 :: v2 :: v1 :: .ref a :: st) G h (0 + kc) (0 + ks) Q := ev_invV0 (As := [v1, v2, v3, v4, v5, v6, v7]) hd hn hk hst ha hz hc rfl hR (Nat.le_of_ble_eq_true hw) hM (fun v G' h' hq _ => by
    obtain ⟨⟨r, rfl, hp⟩, rfl, hq⟩ := hq
    exact kk r h' hp (hJ.call hq hs) hq)
  rw [Nat.zero_add, Nat.zero_add] at h9
  exact h9
theorem ev_V0I (hJ : JW W h0 h) (hs : wsub W' W = true) (hd : ev_at mi pc = some (.invokevirtual ix, nx, tg)) (hn : nx = pc + 3) (hk : ev_lk mi.1.cls ix ce 0) (hst : Cond.instanceMethod ce.1 ∈ gwl ∧ Cond.selects ce.1.cls ce.1 ce.1 ∈ gwl) (ha : Nat.blt 0 a = true) (hz : ev_sh G a = some (.inl c)) (hc : (vwCl[c]?).map (fun q => q.1) = some ce.1.cls) (hR : ev_room mi ce) (hw : Nat.ble ((st.map fun v => v.category).sum) 8 = true) (hM : EvI ce (.ref a :: []) G h RI W') (kk : ∀ r h1, RI r h1 → JW W h0 h1 → JW W' h h1 → EvQ mi nx lo (.int r :: st) G h1 kc ks Q) : EvQ mi pc lo (.ref a :: st) G h kc ks Q := by
  have h9 : EvQ mi pc lo (.ref a :: st) G h (0 + kc) (0 + ks) Q := ev_invV0 (As := []) hd hn hk hst ha hz hc rfl hR (Nat.le_of_ble_eq_true hw) hM (fun v G' h' hq _ => by
    obtain ⟨⟨r, rfl, hp⟩, rfl, hq⟩ := hq
    exact kk r h' hp (hJ.call hq hs) hq)
  rw [Nat.zero_add, Nat.zero_add] at h9
  exact h9
theorem ev_V0K (hJ : JW W h0 h) (hs : wsub W' W = true) (hd : ev_at mi pc = some (.invokevirtual ix, nx, tg)) (hn : nx = pc + 3) (hk : ev_lk mi.1.cls ix ce 0) (hst : Cond.instanceMethod ce.1 ∈ gwl ∧ Cond.selects ce.1.cls ce.1 ce.1 ∈ gwl) (ha : Nat.blt 0 a = true) (hz : ev_sh G a = some (.inl c)) (hc : (vwCl[c]?).map (fun q => q.1) = some ce.1.cls) (hR : ev_room mi ce) (hw : Nat.ble ((st.map fun v => v.category).sum) 8 = true) (hM : EvK ce (.ref a :: []) G h R W') (kk : ∀ h1, JW W h0 h1 → JW W' h h1 → R h1 → EvQ mi nx lo st G h1 kc ks Q) : EvQ mi pc lo (.ref a :: st) G h kc ks Q := by
  have h9 : EvQ mi pc lo (.ref a :: st) G h (0 + kc) (0 + ks) Q := ev_invV0 (As := []) hd hn hk hst ha hz hc rfl hR (Nat.le_of_ble_eq_true hw) hM (fun v G' h' hq _ => by
    obtain ⟨rfl, rfl, hq, hr⟩ := hq
    exact kk h' (hJ.call hq hs) hq hr)
  rw [Nat.zero_add, Nat.zero_add] at h9
  exact h9
theorem ev_V1I (hJ : JW W h0 h) (hs : wsub W' W = true) (hd : ev_at mi pc = some (.invokevirtual ix, nx, tg)) (hn : nx = pc + 3) (hk : ev_lk mi.1.cls ix ce 1) (hst : Cond.instanceMethod ce.1 ∈ gwl ∧ Cond.selects ce.1.cls ce.1 ce.1 ∈ gwl) (ha : Nat.blt 0 a = true) (hz : ev_sh G a = some (.inl c)) (hc : (vwCl[c]?).map (fun q => q.1) = some ce.1.cls) (hR : ev_room mi ce) (hw : Nat.ble ((st.map fun v => v.category).sum) 8 = true) (hM : EvI ce (.ref a :: [v1]) G h RI W') (kk : ∀ r h1, RI r h1 → JW W h0 h1 → JW W' h h1 → EvQ mi nx lo (.int r :: st) G h1 kc ks Q) : EvQ mi pc lo (v1 :: .ref a :: st) G h kc ks Q := by
  have h9 : EvQ mi pc lo (v1 :: .ref a :: st) G h (0 + kc) (0 + ks) Q := ev_invV0 (As := [v1]) hd hn hk hst ha hz hc rfl hR (Nat.le_of_ble_eq_true hw) hM (fun v G' h' hq _ => by
    obtain ⟨⟨r, rfl, hp⟩, rfl, hq⟩ := hq
    exact kk r h' hp (hJ.call hq hs) hq)
  rw [Nat.zero_add, Nat.zero_add] at h9
  exact h9
theorem ev_V2I (hJ : JW W h0 h) (hs : wsub W' W = true) (hd : ev_at mi pc = some (.invokevirtual ix, nx, tg)) (hn : nx = pc + 3) (hk : ev_lk mi.1.cls ix ce 2) (hst : Cond.instanceMethod ce.1 ∈ gwl ∧ Cond.selects ce.1.cls ce.1 ce.1 ∈ gwl) (ha : Nat.blt 0 a = true) (hz : ev_sh G a = some (.inl c)) (hc : (vwCl[c]?).map (fun q => q.1) = some ce.1.cls) (hR : ev_room mi ce) (hw : Nat.ble ((st.map fun v => v.category).sum) 8 = true) (hM : EvI ce (.ref a :: [v1, v2]) G h RI W') (kk : ∀ r h1, RI r h1 → JW W h0 h1 → JW W' h h1 → EvQ mi nx lo (.int r :: st) G h1 kc ks Q) : EvQ mi pc lo (v2 :: v1 :: .ref a :: st) G h kc ks Q := by
  have h9 : EvQ mi pc lo (v2 :: v1 :: .ref a :: st) G h (0 + kc) (0 + ks) Q := ev_invV0 (As := [v1, v2]) hd hn hk hst ha hz hc rfl hR (Nat.le_of_ble_eq_true hw) hM (fun v G' h' hq _ => by
    obtain ⟨⟨r, rfl, hp⟩, rfl, hq⟩ := hq
    exact kk r h' hp (hJ.call hq hs) hq)
  rw [Nat.zero_add, Nat.zero_add] at h9
  exact h9
theorem ev_V2K (hJ : JW W h0 h) (hs : wsub W' W = true) (hd : ev_at mi pc = some (.invokevirtual ix, nx, tg)) (hn : nx = pc + 3) (hk : ev_lk mi.1.cls ix ce 2) (hst : Cond.instanceMethod ce.1 ∈ gwl ∧ Cond.selects ce.1.cls ce.1 ce.1 ∈ gwl) (ha : Nat.blt 0 a = true) (hz : ev_sh G a = some (.inl c)) (hc : (vwCl[c]?).map (fun q => q.1) = some ce.1.cls) (hR : ev_room mi ce) (hw : Nat.ble ((st.map fun v => v.category).sum) 8 = true) (hM : EvK ce (.ref a :: [v1, v2]) G h R W') (kk : ∀ h1, JW W h0 h1 → JW W' h h1 → R h1 → EvQ mi nx lo st G h1 kc ks Q) : EvQ mi pc lo (v2 :: v1 :: .ref a :: st) G h kc ks Q := by
  have h9 : EvQ mi pc lo (v2 :: v1 :: .ref a :: st) G h (0 + kc) (0 + ks) Q := ev_invV0 (As := [v1, v2]) hd hn hk hst ha hz hc rfl hR (Nat.le_of_ble_eq_true hw) hM (fun v G' h' hq _ => by
    obtain ⟨rfl, rfl, hq, hr⟩ := hq
    exact kk h' (hJ.call hq hs) hq hr)
  rw [Nat.zero_add, Nat.zero_add] at h9
  exact h9
theorem ev_V3K (hJ : JW W h0 h) (hs : wsub W' W = true) (hd : ev_at mi pc = some (.invokevirtual ix, nx, tg)) (hn : nx = pc + 3) (hk : ev_lk mi.1.cls ix ce 3) (hst : Cond.instanceMethod ce.1 ∈ gwl ∧ Cond.selects ce.1.cls ce.1 ce.1 ∈ gwl) (ha : Nat.blt 0 a = true) (hz : ev_sh G a = some (.inl c)) (hc : (vwCl[c]?).map (fun q => q.1) = some ce.1.cls) (hR : ev_room mi ce) (hw : Nat.ble ((st.map fun v => v.category).sum) 8 = true) (hM : EvK ce (.ref a :: [v1, v2, v3]) G h R W') (kk : ∀ h1, JW W h0 h1 → JW W' h h1 → R h1 → EvQ mi nx lo st G h1 kc ks Q) : EvQ mi pc lo (v3 :: v2 :: v1 :: .ref a :: st) G h kc ks Q := by
  have h9 : EvQ mi pc lo (v3 :: v2 :: v1 :: .ref a :: st) G h (0 + kc) (0 + ks) Q := ev_invV0 (As := [v1, v2, v3]) hd hn hk hst ha hz hc rfl hR (Nat.le_of_ble_eq_true hw) hM (fun v G' h' hq _ => by
    obtain ⟨rfl, rfl, hq, hr⟩ := hq
    exact kk h' (hJ.call hq hs) hq hr)
  rw [Nat.zero_add, Nat.zero_add] at h9
  exact h9
theorem ev_V4I (hJ : JW W h0 h) (hs : wsub W' W = true) (hd : ev_at mi pc = some (.invokevirtual ix, nx, tg)) (hn : nx = pc + 3) (hk : ev_lk mi.1.cls ix ce 4) (hst : Cond.instanceMethod ce.1 ∈ gwl ∧ Cond.selects ce.1.cls ce.1 ce.1 ∈ gwl) (ha : Nat.blt 0 a = true) (hz : ev_sh G a = some (.inl c)) (hc : (vwCl[c]?).map (fun q => q.1) = some ce.1.cls) (hR : ev_room mi ce) (hw : Nat.ble ((st.map fun v => v.category).sum) 8 = true) (hM : EvI ce (.ref a :: [v1, v2, v3, v4]) G h RI W') (kk : ∀ r h1, RI r h1 → JW W h0 h1 → JW W' h h1 → EvQ mi nx lo (.int r :: st) G h1 kc ks Q) : EvQ mi pc lo (v4 :: v3 :: v2 :: v1 :: .ref a :: st) G h kc ks Q := by
  have h9 : EvQ mi pc lo (v4 :: v3 :: v2 :: v1 :: .ref a :: st) G h (0 + kc) (0 + ks) Q := ev_invV0 (As := [v1, v2, v3, v4]) hd hn hk hst ha hz hc rfl hR (Nat.le_of_ble_eq_true hw) hM (fun v G' h' hq _ => by
    obtain ⟨⟨r, rfl, hp⟩, rfl, hq⟩ := hq
    exact kk r h' hp (hJ.call hq hs) hq)
  rw [Nat.zero_add, Nat.zero_add] at h9
  exact h9
theorem ev_iaddA (hd : ev_at mi pc = some (.iadd, nx, tg)) (hn : nx = pc + 1) (k : ∀ v, v = x + y → EvQ mi nx lo (.int v :: st) G h kc ks Q) : EvQ mi pc lo (.int y :: .int x :: st) G h kc ks Q := ev_iadd hd hn (k _ rfl)
theorem ev_iaddV {v : Int32} (e : v = x + y) (hd : ev_at mi pc = some (.iadd, nx, tg)) (hn : nx = pc + 1) (k : EvQ mi nx lo (.int v :: st) G h kc ks Q) : EvQ mi pc lo (.int y :: .int x :: st) G h kc ks Q := ev_iadd hd hn (e ▸ k)
theorem ev_isubA (hd : ev_at mi pc = some (.isub, nx, tg)) (hn : nx = pc + 1) (k : ∀ v, v = x - y → EvQ mi nx lo (.int v :: st) G h kc ks Q) : EvQ mi pc lo (.int y :: .int x :: st) G h kc ks Q := ev_isub hd hn (k _ rfl)
theorem ev_isubV {v : Int32} (e : v = x - y) (hd : ev_at mi pc = some (.isub, nx, tg)) (hn : nx = pc + 1) (k : EvQ mi nx lo (.int v :: st) G h kc ks Q) : EvQ mi pc lo (.int y :: .int x :: st) G h kc ks Q := ev_isub hd hn (e ▸ k)
theorem ev_imulA (hd : ev_at mi pc = some (.imul, nx, tg)) (hn : nx = pc + 1) (k : ∀ v, EvQ mi nx lo (.int v :: st) G h kc ks Q) : EvQ mi pc lo (.int y :: .int x :: st) G h kc ks Q := ev_imul hd hn (k _)
theorem ev_iandA (hd : ev_at mi pc = some (.iand, nx, tg)) (hn : nx = pc + 1) (k : ∀ v, EvQ mi nx lo (.int v :: st) G h kc ks Q) : EvQ mi pc lo (.int y :: .int x :: st) G h kc ks Q := ev_iand hd hn (k _)
theorem ev_iorA (hd : ev_at mi pc = some (.ior, nx, tg)) (hn : nx = pc + 1) (k : ∀ v, EvQ mi nx lo (.int v :: st) G h kc ks Q) : EvQ mi pc lo (.int y :: .int x :: st) G h kc ks Q := ev_ior hd hn (k _)
theorem ev_ixorA (hd : ev_at mi pc = some (.ixor, nx, tg)) (hn : nx = pc + 1) (k : ∀ v, EvQ mi nx lo (.int v :: st) G h kc ks Q) : EvQ mi pc lo (.int y :: .int x :: st) G h kc ks Q := ev_ixor hd hn (k _)
theorem ev_ishlA (hd : ev_at mi pc = some (.ishl, nx, tg)) (hn : nx = pc + 1) (k : ∀ v, EvQ mi nx lo (.int v :: st) G h kc ks Q) : EvQ mi pc lo (.int y :: .int x :: st) G h kc ks Q := ev_ishl hd hn (k _)
theorem ev_ishrA (hd : ev_at mi pc = some (.ishr, nx, tg)) (hn : nx = pc + 1) (k : ∀ v, EvQ mi nx lo (.int v :: st) G h kc ks Q) : EvQ mi pc lo (.int y :: .int x :: st) G h kc ks Q := ev_ishr hd hn (k _)
theorem ev_idivA (hy : B y ya yb) (h0 : 0 < ya) (hd : ev_at mi pc = some (.idiv, nx, tg)) (hn : nx = pc + 1) (k : ∀ v, EvQ mi nx lo (.int v :: st) G h kc ks Q) : EvQ mi pc lo (.int y :: .int x :: st) G h kc ks Q := ev_idiv hd hn (hy.ne0 h0) (k _)
theorem ev_inegA (hd : ev_at mi pc = some (.ineg, nx, tg)) (hn : nx = pc + 1) (k : ∀ v, EvQ mi nx lo (.int v :: st) G h kc ks Q) : EvQ mi pc lo (.int x :: st) G h kc ks Q := ev_ineg hd hn (k _)
theorem ev_i2bA (hd : ev_at mi pc = some (.i2b, nx, tg)) (hn : nx = pc + 1) (k : ∀ v, EvQ mi nx lo (.int v :: st) G h kc ks Q) : EvQ mi pc lo (.int x :: st) G h kc ks Q := ev_i2b hd hn (k _)
theorem ev_i2sA (hd : ev_at mi pc = some (.i2s, nx, tg)) (hn : nx = pc + 1) (k : ∀ v, EvQ mi nx lo (.int v :: st) G h kc ks Q) : EvQ mi pc lo (.int x :: st) G h kc ks Q := ev_i2s hd hn (k _)
theorem ev_iaddB (hd : ev_at mi pc = some (.iadd, nx, tg)) (hn : nx = pc + 1) (hx : B x xa xb) (hy : B y ya yb) (h1 : -2147483648 ≤ xa + ya) (h2 : xb + yb ≤ 2147483647) (hl : xa + ya = l) (hu : xb + yb = u) (k : ∀ v, B v l u → v.toInt = x.toInt + y.toInt → v = x + y → EvQ mi nx lo (.int v :: st) G h kc ks Q) : EvQ mi pc lo (.int y :: .int x :: st) G h kc ks Q := by
  subst hl; subst hu
  exact ev_iadd hd hn (k _ (B.add hx hy h1 h2).1 (B.add hx hy h1 h2).2 rfl)
theorem ev_isubB (hd : ev_at mi pc = some (.isub, nx, tg)) (hn : nx = pc + 1) (hx : B x xa xb) (hy : B y ya yb) (h1 : -2147483648 ≤ xa - yb) (h2 : xb - ya ≤ 2147483647) (hl : xa - yb = l) (hu : xb - ya = u) (k : ∀ v, B v l u → v.toInt = x.toInt - y.toInt → v = x - y → EvQ mi nx lo (.int v :: st) G h kc ks Q) : EvQ mi pc lo (.int y :: .int x :: st) G h kc ks Q := by
  subst hl; subst hu
  exact ev_isub hd hn (k _ (B.sub hx hy h1 h2).1 (B.sub hx hy h1 h2).2 rfl)
theorem ev_imulB (hd : ev_at mi pc = some (.imul, nx, tg)) (hn : nx = pc + 1) (hx : B x xa xb) (hy : B y ya yb) (h1 : 0 ≤ xa) (h2 : 0 ≤ ya) (h3 : xb * yb ≤ 2147483647) (hl : xa * ya = l) (hu : xb * yb = u) (k : ∀ v, B v l u → v.toInt = x.toInt * y.toInt → v = x * y → EvQ mi nx lo (.int v :: st) G h kc ks Q) : EvQ mi pc lo (.int y :: .int x :: st) G h kc ks Q := by
  subst hl; subst hu
  exact ev_imul hd hn (k _ (B.mul hx hy h1 h2 h3) (B.mule hx hy h1 h2 h3) rfl)
theorem ev_inegB (hd : ev_at mi pc = some (.ineg, nx, tg)) (hn : nx = pc + 1) (hx : B x xa xb) (h1 : -2147483648 < xa) (hl : -xb = l) (hu : -xa = u) (k : ∀ v, B v l u → EvQ mi nx lo (.int v :: st) G h kc ks Q) : EvQ mi pc lo (.int x :: st) G h kc ks Q := by
  subst hl; subst hu
  exact ev_ineg hd hn (k _ (B.neg hx h1))
theorem ev_iandB (hd : ev_at mi pc = some (.iand, nx, tg)) (hn : nx = pc + 1) (hy : B y ya yb) (h2 : 0 ≤ ya) (k : ∀ v, B v 0 yb → v = x &&& y → EvQ mi nx lo (.int v :: st) G h kc ks Q) : EvQ mi pc lo (.int y :: .int x :: st) G h kc ks Q := ev_iand hd hn (k _ (B.and hy h2) rfl)
theorem ev_iandC (hd : ev_at mi pc = some (.iand, nx, tg)) (hn : nx = pc + 1) (hx : B x xa xb) (h2 : 0 ≤ xa) (k : ∀ v, B v 0 xb → v = x &&& y → EvQ mi nx lo (.int v :: st) G h kc ks Q) : EvQ mi pc lo (.int y :: .int x :: st) G h kc ks Q := ev_iand hd hn (k _ (B.andL hx h2) rfl)
theorem ev_iorB (N : Nat) (hd : ev_at mi pc = some (.ior, nx, tg)) (hn : nx = pc + 1) (hx : B x xa xb) (hy : B y ya yb) (h1 : 0 ≤ xa) (h2 : 0 ≤ ya) (h3 : N ≤ 31) (h4 : xb < 2 ^ N) (h5 : yb < 2 ^ N) (hu : 2 ^ N - 1 = u) (k : ∀ v, B v 0 u → v = x ||| y → EvQ mi nx lo (.int v :: st) G h kc ks Q) : EvQ mi pc lo (.int y :: .int x :: st) G h kc ks Q := by
  subst hu
  exact ev_ior hd hn (k _ (B.or N hx hy h1 h2 h3 h4 h5) rfl)
theorem ev_ishlB (hd : ev_at mi pc = some (.ishl, nx, tg)) (hn : nx = pc + 1) (hy : B y ya yb) (h1 : 0 ≤ ya) (h2 : yb ≤ 11) (k : ∀ v, B v 1 2048 → EvQ mi nx lo (.int v :: st) G h kc ks Q) : EvQ mi pc lo (.int y :: .int 1 :: st) G h kc ks Q := ev_ishl hd hn (k _ (B.shl1 hy h1 h2))
theorem ev_iincB {m : Nat} {d : Int} {y : Int32} (hd : ev_at mi pc = some (.iinc m d, nx, tg)) (hn : nx = pc + 3) (hl : lo[m]? = some (some (.int x))) (hy : Int32.ofInt d = y) (hb : Nat.blt m (mi_L mi) = true) (hc : ev_c1 lo m = true) (hx : B x xa xb) (hyb : B y ya ya) (h1 : -2147483648 ≤ xa + ya) (h2 : xb + ya ≤ 2147483647) (hl2 : xa + ya = l) (hu : xb + ya = u) (k : ∀ v, B v l u → v.toInt = x.toInt + y.toInt → EvQ mi nx (lo.set m (some (.int v))) st G h kc ks Q) : EvQ mi pc lo st G h kc ks Q := by
  subst hl2; subst hu
  exact ev_iinc hd hn hl hy hb hc (k _ (B.add hx hyb h1 h2).1 (B.add hx hyb h1 h2).2)
theorem ev_iincL {m : Nat} {d : Int} {y v : Int32} (hd : ev_at mi pc = some (.iinc m d, nx, tg)) (hn : nx = pc + 3) (hl : lo[m]? = some (some (.int x))) (hy : Int32.ofInt d = y) (hb : Nat.blt m (mi_L mi) = true) (hc : ev_c1 lo m = true) (hv : x + y = v) (k : EvQ mi nx (lo.set m (some (.int v))) st G h kc ks Q) : EvQ mi pc lo st G h kc ks Q := ev_iinc hd hn hl hy hb hc (by rw [hv]; exact k)
theorem ev_iincA {m : Nat} {d : Int} (hd : ev_at mi pc = some (.iinc m d, nx, tg)) (hn : nx = pc + 3) (hl : lo[m]? = some (some (.int x))) (hb : Nat.blt m (mi_L mi) = true) (hc : ev_c1 lo m = true) (k : ∀ v, EvQ mi nx (lo.set m (some (.int v))) st G h kc ks Q) : EvQ mi pc lo st G h kc ks Q := ev_iinc hd hn hl rfl hb hc (k _)
theorem ev_getW {k : Nat} (hB : Bx h) (hb : bx a k = (l, u)) (hd : ev_at mi pc = some (.getfield ix, nx, tg)) (hn : nx = pc + 3) (hf : ev_fl mi.1.cls ix c k) (ha : Nat.blt 0 a = true) (hz : ev_sh G a = some (.inl c)) (ht : (tyCl c k).isReference = false) (kk : ∀ v, B v l u → h a k = v → EvQ mi nx lo (.int v :: st) G h kc ks Q) : EvQ mi pc lo (.ref a :: st) G h kc ks Q :=
  ev_getI hd hn hf ha hz ht (kk _ (by have := hB a k; rw [hb] at this; exact this) rfl)
theorem ev_ialW (hB : Bx h) (hx : B x xa xb) (h0 : 0 ≤ xa) (hb : xb < (n : Int)) (hbx : ∀ j, bx a j = (l, u)) (hd : ev_at mi pc = some (.iaload, nx, tg)) (hn : nx = pc + 1) (hz : ev_sh G a = some (.inr (.int, n))) (kk : ∀ v, B v l u → h a x.toNatClampNeg = v → EvQ mi nx lo (.int v :: st) G h kc ks Q) : EvQ mi pc lo (.int x :: .ref a :: st) G h kc ks Q :=
  ev_iald hd hn hz (hx.vp h0 hb) rfl (kk _ (by have := hB a x.toNatClampNeg; rw [hbx] at this; exact this) rfl)
theorem ev_ialK {j : Nat} (hB : Bx h) (hx : B x xa xb) (h0 : 0 ≤ xa) (hb : xb < (n : Int)) (hj : x.toNatClampNeg = j) (hbx : bx a j = (l, u)) (hd : ev_at mi pc = some (.iaload, nx, tg)) (hn : nx = pc + 1) (hz : ev_sh G a = some (.inr (.int, n))) (kk : ∀ v, B v l u → h a j = v → EvQ mi nx lo (.int v :: st) G h kc ks Q) : EvQ mi pc lo (.int x :: .ref a :: st) G h kc ks Q :=
  ev_iald hd hn hz (hx.vp h0 hb) hj (kk _ (by have := hB a j; rw [hbx] at this; exact this) rfl)
theorem ev_ialG (hB : Bx h) (hx : B x xa xb) (h0 : 0 ≤ xa) (hb : xb < (n : Int)) (hd : ev_at mi pc = some (.iaload, nx, tg)) (hn : nx = pc + 1) (hz : ev_sh G a = some (.inr (.int, n))) (kk : ∀ v, B v (bx a x.toNatClampNeg).1 (bx a x.toNatClampNeg).2 → h a x.toNatClampNeg = v → EvQ mi nx lo (.int v :: st) G h kc ks Q) : EvQ mi pc lo (.int x :: .ref a :: st) G h kc ks Q :=
  ev_iald hd hn hz (hx.vp h0 hb) rfl (kk _ (hB a x.toNatClampNeg) rfl)
theorem ev_iasG {v : Int32} (hJ : JW W h0 h) (hx : B x xa xb) (h1 : 0 ≤ xa) (hb : xb < (n : Int)) (hv : B v (bx a x.toNatClampNeg).1 (bx a x.toNatClampNeg).2) (hw : ∀ j, wm W a j = true) (hd : ev_at mi pc = some (.iastore, nx, tg)) (hn : nx = pc + 1) (ha : Nat.blt 0 a = true) (hz : ev_sh G a = some (.inr (.int, n))) (kk : ∀ h1, JW W h0 h1 → h1 = ev_set h a x.toNatClampNeg v → EvQ mi nx lo st G h1 kc ks Q) : EvQ mi pc lo (.int v :: .int x :: .ref a :: st) G h kc ks Q :=
  ev_iast hd hn ha hz (hx.vp h1 hb) rfl (kk _ (hJ.set (hw _) hv) rfl)
theorem ev_zalW (hB : Bx h) (hx : B x xa xb) (h0 : 0 ≤ xa) (hb : xb < (n : Int)) (hbx : ∀ j, bx a j = (l, u)) (hd : ev_at mi pc = some (.baload, nx, tg)) (hn : nx = pc + 1) (hz : ev_sh G a = some (.inr (.boolean, n))) (kk : ∀ v, B v l u → h a x.toNatClampNeg = v → EvQ mi nx lo (.int v :: st) G h kc ks Q) : EvQ mi pc lo (.int x :: .ref a :: st) G h kc ks Q :=
  ev_zald hd hn hz (hx.vp h0 hb) rfl (kk _ (by have := hB a x.toNatClampNeg; rw [hbx] at this; exact this) rfl)
theorem ev_iasW {v : Int32} {va vb : Int} (hJ : JW W h0 h) (hx : B x xa xb) (h1 : 0 ≤ xa) (hb : xb < (n : Int)) (hbx : ∀ j, bx a j = (l, u)) (hv : B v va vb) (hl : l ≤ va) (hu : vb ≤ u) (hw : ∀ j, wm W a j = true) (hd : ev_at mi pc = some (.iastore, nx, tg)) (hn : nx = pc + 1) (ha : Nat.blt 0 a = true) (hz : ev_sh G a = some (.inr (.int, n))) (kk : ∀ h1, JW W h0 h1 → h1 = ev_set h a x.toNatClampNeg v → EvQ mi nx lo st G h1 kc ks Q) : EvQ mi pc lo (.int v :: .int x :: .ref a :: st) G h kc ks Q :=
  ev_iast hd hn ha hz (hx.vp h1 hb) rfl (kk _ (hJ.set (hw _) (by rw [hbx]; exact hv.mono hl hu)) rfl)
theorem ev_zasW {v : Int32} (hJ : JW W h0 h) (hx : B x xa xb) (h1 : 0 ≤ xa) (hb : xb < (n : Int)) (hbx : ∀ j, bx a j = (l, u)) (hv : B v 0 1) (hl : l ≤ 0) (hu : 1 ≤ u) (hw : ∀ j, wm W a j = true) (hd : ev_at mi pc = some (.bastore, nx, tg)) (hn : nx = pc + 1) (ha : Nat.blt 0 a = true) (hz : ev_sh G a = some (.inr (.boolean, n))) (kk : ∀ h1, JW W h0 h1 → h1 = ev_set h a x.toNatClampNeg v → EvQ mi nx lo st G h1 kc ks Q) : EvQ mi pc lo (.int v :: .int x :: .ref a :: st) G h kc ks Q :=
  ev_zast hd hn ha hz (hx.vp h1 hb) rfl hv.z01 (kk _ (hJ.set (hw _) (by rw [hbx]; exact hv.mono hl hu)) rfl)
theorem ev_putW {k : Nat} {q : vw_C} {v : Int32} {va vb : Int} (hJ : JW W h0 h) (hbx : bx a k = (l, u)) (hv : B v va vb) (hl : l ≤ va) (hu : vb ≤ u) (hw : wm W a k = true) (hd : ev_at mi pc = some (.putfield ix, nx, tg)) (hn : nx = pc + 3) (hf : ev_fl mi.1.cls ix c k) (hq : vwCl[c]? = some q) (hfin : (q.2.1 k).2.2.2 = false) (ha : Nat.blt 0 a = true) (hz : ev_sh G a = some (.inl c)) (ht : tyCl c k = .int) (kk : ∀ h1, JW W h0 h1 → h1 = ev_set h a k v → EvQ mi nx lo st G h1 kc ks Q) : EvQ mi pc lo (.int v :: .ref a :: st) G h kc ks Q :=
  ev_putI hd hn hf hq hfin ha hz ht (kk _ (hJ.set hw (by rw [hbx]; exact hv.mono hl hu)) rfl)
theorem ev_puzW {k : Nat} {q : vw_C} {v : Int32} (hJ : JW W h0 h) (hbx : bx a k = (l, u)) (hv : B v 0 1) (hl : l ≤ 0) (hu : 1 ≤ u) (hw : wm W a k = true) (hd : ev_at mi pc = some (.putfield ix, nx, tg)) (hn : nx = pc + 3) (hf : ev_fl mi.1.cls ix c k) (hq : vwCl[c]? = some q) (hfin : (q.2.1 k).2.2.2 = false) (ha : Nat.blt 0 a = true) (hz : ev_sh G a = some (.inl c)) (ht : tyCl c k = .boolean) (kk : ∀ h1, JW W h0 h1 → h1 = ev_set h a k v → EvQ mi nx lo st G h1 kc ks Q) : EvQ mi pc lo (.int v :: .ref a :: st) G h kc ks Q :=
  ev_putZ hd hn hf hq hfin ha hz ht hv.z01 (kk _ (hJ.set hw (by rw [hbx]; exact hv.mono hl hu)) rfl)
theorem ev_iasK {j : Nat} {v : Int32} {va vb : Int} (hJ : JW W h0 h) (hx : B x xa xb) (h1 : 0 ≤ xa) (hb : xb < (n : Int)) (hj : x.toNatClampNeg = j) (hbx : bx a j = (l, u)) (hv : B v va vb) (hl : l ≤ va) (hu : vb ≤ u) (hw : wm W a j = true) (hd : ev_at mi pc = some (.iastore, nx, tg)) (hn : nx = pc + 1) (ha : Nat.blt 0 a = true) (hz : ev_sh G a = some (.inr (.int, n))) (kk : ∀ h1, JW W h0 h1 → h1 = ev_set h a j v → EvQ mi nx lo st G h1 kc ks Q) : EvQ mi pc lo (.int v :: .int x :: .ref a :: st) G h kc ks Q :=
  ev_iast hd hn ha hz (hx.vp h1 hb) hj (kk _ (hJ.set hw (by rw [hbx]; exact hv.mono hl hu)) rfl)
theorem JW.cpy {x y sN dN nN : Nat} {l' u' : Int} (hJ : JW W h0 h) (hbx : ∀ j, bx y (j + dN) = (l, u)) (hsx : ∀ j, bx x (j + sN) = (l', u')) (hl : l ≤ l') (hu : u' ≤ u) (hw : ∀ j, wm W y j = true) : JW W h0 (ev_cpy h x y sN dN nN) := by
  refine ⟨fun i j => ?_, fun i j hij => ?_⟩
  · unfold ev_cpy
    split
    · rename_i q
      subst q
      unfold va_cpy
      split
      · rename_i q
        have e1 := hbx (j - dN)
        have e2 := hsx (j - dN)
        rw [Nat.sub_add_cancel q.1] at e1
        rw [e1]
        have e3 := hJ.1 x (sN + (j - dN))
        rw [Nat.add_comm, e2] at e3
        rw [Nat.add_comm sN]
        exact e3.mono hl hu
      · exact hJ.1 i j
    · exact hJ.1 i j
  · unfold ev_cpy
    split
    · rename_i q
      subst q
      rw [hw] at hij
      cases hij
    · exact hJ.2 i j hij
theorem ev_cpyW {x y n0 n1 sN dN : Nat} {sp dp v : Int32} {l' u' na nb : Int} (hJ : JW W h0 h) (hbx : ∀ j, bx y (j + dN) = (l, u)) (hsx : ∀ j, bx x (j + sN) = (l', u')) (hl : l ≤ l') (hu : u' ≤ u) (hw : ∀ j, wm W y j = true) (hv : B v na nb) (h3 : 0 ≤ na) (h4 : (sN : Int) + nb ≤ (n0 : Int)) (h5 : (dN : Int) + nb ≤ (n1 : Int)) (h1 : ¬ sp < 0) (h2 : ¬ dp < 0) (e1 : sp.toNatClampNeg = sN) (e2 : dp.toNatClampNeg = dN)
    (hd : ev_at mi pc = some (.invokestatic ix, nx, tg)) (hn : nx = pc + 3) (w1 : Cond.methodLink mi.1.cls ix arraycopyName ∈ gwl) (hx : Nat.blt 0 x = true) (hy : Nat.blt 0 y = true) (zx : ev_sh G x = some (.inr (.int, n0))) (zy : ev_sh G y = some (.inr (.int, n1))) (hF : Nat.ble 1 (mi_F mi) = true) (hSz : Nat.ble 26 (mi_S mi) = true) (hst : (st.map fun v => v.category).sum ≤ 8)
    (kk : ∀ h1, JW W h0 h1 → h1 = ev_cpy h x y sN dN v.toNatClampNeg → EvQ mi nx lo st G h1 kc ks Q) : EvQ mi pc lo (.int v :: .int dp :: .ref y :: .int sp :: .ref x :: st) G h kc ks Q := by
  have q1 := hv.1
  have q2 := hv.2
  have e0 : (0 : Int32).toInt = 0 := by decide
  have e3 : v.toNatClampNeg = v.toInt.toNat := rfl
  exact ev_copy hd hn w1 cp_n cp_s cp_i hx hy zx zy h1 h2 (fun q => by rw [Int32.lt_iff_toInt_lt] at q; omega) e1 e2 rfl (by omega) (by omega) hF hSz hst (kk _ (hJ.cpy hbx hsx hl hu hw) rfl)
theorem B.rem (hx : B x xa xb) (hy : B y ya ya) (h1 : 0 ≤ xa) (h2 : 0 < ya) (h3 : xb ≤ 2147483647) : B (x - x / y * y) 0 (ya - 1) := by
  have q1 := hx.1; have q2 := hx.2; have q3 := hy.1; have q4 := hy.2
  have e : y.toInt = ya := by omega
  have f1 : x.toInt.tdiv y.toInt = x.toInt / ya := by rw [e]; exact Int.tdiv_eq_ediv_of_nonneg (by omega)
  have f2 : 0 ≤ x.toInt / ya := Int.ediv_nonneg (by omega) (by omega)
  have f3 : x.toInt / ya ≤ x.toInt := Int.ediv_le_self _ (by omega)
  have e1 : (x / y).toInt = x.toInt / ya := by
    rw [Int32.toInt_div, f1]
    exact Int.bmod_eq_of_le (by omega) (by omega)
  have f4 : x.toInt / ya * ya ≤ x.toInt := Int.ediv_mul_le _ (by omega)
  have f5 : x.toInt < (x.toInt / ya + 1) * ya := Int.lt_ediv_add_one_mul_self _ h2
  have f6 : 0 ≤ x.toInt / ya * ya := Int.mul_nonneg f2 (by omega)
  have e2 : (x / y * y).toInt = x.toInt / ya * ya := by
    rw [w_mul (by rw [e1, e]; omega) (by rw [e1, e]; omega), e1, e]
  have e3 : (x - x / y * y).toInt = x.toInt - x.toInt / ya * ya := by
    rw [w_sub (by rw [e2]; omega) (by rw [e2]; omega), e2]
  rw [Int.add_mul] at f5
  unfold B
  rw [e3]
  exact ⟨by omega, by omega⟩
theorem ev_iremB (hd : ev_at mi pc = some (.irem, nx, tg)) (hn : nx = pc + 1) (hx : B x xa xb) (hy : B y ya ya) (h1 : 0 ≤ xa) (h2 : 0 < ya) (h3 : xb ≤ 2147483647) (hu : ya - 1 = u) (k : ∀ v, B v 0 u → EvQ mi nx lo (.int v :: st) G h kc ks Q) : EvQ mi pc lo (.int y :: .int x :: st) G h kc ks Q := by
  subst hu
  exact ev_irem hd hn (hy.ne0 h2) (k _ (B.rem hx hy h1 h2 h3))
end EVK
theorem lk_no3 {x a b c : Int32} {i j k d : Int} (h1 : ¬ x = a) (h2 : ¬ x = b) (h3 : ¬ x = c) : Op.lookupswitch.offset [(a.toInt, i), (b.toInt, j), (c.toInt, k)] d x.toInt = d := by
  rw [Op.lookupswitch.offset_cons, if_neg (fun e => h1 (Int32.toInt_inj.mp e.symm)), Op.lookupswitch.offset_cons, if_neg (fun e => h2 (Int32.toInt_inj.mp e.symm)), Op.lookupswitch.offset_cons, if_neg (fun e => h3 (Int32.toInt_inj.mp e.symm)), Op.lookupswitch.offset_nil]
theorem B.add0 {v x : Int32} {l u : Int} (e : v = x + 0) (h : B v l u) : B x l u := by
  have q : x + 0 = x := by simp
  rw [q] at e
  rw [← e]
  exact h
/-! kept (71): rows of 42 -/
theorem kb_get {x v : Int32} {c : Nat} (hc : x.toInt.toNat % 42 = c) (h : B v (bx 71 x.toNatClampNeg).1 (bx 71 x.toNatClampNeg).2) : B v (bk c).1 (bk c).2 := by
  subst hc
  exact h
theorem kb_put {x v : Int32} {c : Nat} (hc : x.toInt.toNat % 42 = c) (h : B v (bk c).1 (bk c).2) : B v (bx 71 x.toNatClampNeg).1 (bx 71 x.toNatClampNeg).2 := by
  subst hc
  exact h
theorem bk_any {r : Nat} (h0 : r ≠ 0) (h3 : r ≠ 3) (h5 : r ≠ 5) : bk r = (-2147483648, 2147483647) := by
  unfold bk
  split <;> first | rfl | (exfalso; omega)
theorem kb_putA {x v : Int32} (hc : x.toInt.toNat % 42 ≠ 0 ∧ x.toInt.toNat % 42 ≠ 3 ∧ x.toInt.toNat % 42 ≠ 5) : B v (bx 71 x.toNatClampNeg).1 (bx 71 x.toNatClampNeg).2 := by
  have e : bx 71 x.toNatClampNeg = bk (x.toInt.toNat % 42) := rfl
  rw [e, bk_any hc.1 hc.2.1 hc.2.2]
  exact B.any v
theorem kb_same {x y v : Int32} (hc : x.toInt.toNat % 42 = y.toInt.toNat % 42) (h : B v (bx 71 y.toNatClampNeg).1 (bx 71 y.toNatClampNeg).2) : B v (bx 71 x.toNatClampNeg).1 (bx 71 x.toNatClampNeg).2 := by
  have e : bx 71 x.toNatClampNeg = bk (x.toInt.toNat % 42) := rfl
  have e2 : bx 71 y.toNatClampNeg = bk (y.toInt.toNat % 42) := rfl
  rw [e, hc, ← e2]
  exact h
/-! a field that is out of its box for a while -/
def JP (W : List (Nat × Nat)) (h h1 : Hp) (a k : Nat) : Prop := ∀ x, B x (bx a k).1 (bx a k).2 → JW W h (ev_set h1 a k x)
theorem es_es (h : Hp) (a k : Nat) (x y : Int32) : ev_set (ev_set h a k x) a k y = ev_set h a k y := by
  funext i j
  unfold ev_set
  split <;> rfl
theorem es_comm (h : Hp) (a k i j : Nat) (x y : Int32) (hne : (Nat.beq a i && Nat.beq k j) = false) : ev_set (ev_set h i j y) a k x = ev_set (ev_set h a k x) i j y := by
  funext p q
  unfold ev_set
  by_cases e1 : p = a ∧ q = k
  · rw [if_pos e1]
    have : ¬ (p = i ∧ q = j) := fun e2 => by
      rw [← e1.1, ← e1.2, e2.1, e2.2] at hne
      simp at hne
    rw [if_neg this, if_pos e1]
  · rw [if_neg e1, if_neg e1]
theorem JP.start {W : List (Nat × Nat)} {h h1 h2 : Hp} {a k : Nat} {v : Int32} (hJ : JW W h h1) (hw : wm W a k = true) (e : h2 = ev_set h1 a k v) : JP W h h2 a k := fun x hx => by
  rw [e, es_es]
  exact hJ.set hw hx
theorem JP.again {W : List (Nat × Nat)} {h h1 h2 : Hp} {a k : Nat} {v : Int32} (hP : JP W h h1 a k) (e : h2 = ev_set h1 a k v) : JP W h h2 a k := fun x hx => by
  rw [e, es_es]
  exact hP x hx
theorem JP.put {W : List (Nat × Nat)} {h h1 h2 : Hp} {a k i j : Nat} {y : Int32} (hP : JP W h h1 a k) (hne : (Nat.beq a i && Nat.beq k j) = false) (hw : wm W i j = true) (hb : B y (bx i j).1 (bx i j).2) (e : h2 = ev_set h1 i j y) : JP W h h2 a k := fun x hx => by
  rw [e, es_comm _ _ _ _ _ _ _ hne]
  exact (hP x hx).set hw hb
theorem JP.get {W : List (Nat × Nat)} {h h1 : Hp} {a k i j : Nat} {v : Int32} (hP : JP W h h1 a k) (h0 : B 0 (bx a k).1 (bx a k).2) (hne : (Nat.beq i a && Nat.beq j k) = false) (e : h1 i j = v) : B v (bx i j).1 (bx i j).2 := by
  have q := (hP 0 h0).1 i j
  rw [rd_o rfl e hne] at q
  exact q
theorem JP.fix {W : List (Nat × Nat)} {h h1 h2 : Hp} {a k : Nat} {x : Int32} (hP : JP W h h1 a k) (hx : B x (bx a k).1 (bx a k).2) (e : h2 = ev_set h1 a k x) : JW W h h2 := by
  rw [e]
  exact hP x hx
theorem JP.rest {W : List (Nat × Nat)} {h h1 : Hp} {a k : Nat} {v : Int32} (hP : JP W h h1 a k) (e : h1 a k = v) (hx : B v (bx a k).1 (bx a k).2) : JW W h h1 := by
  have q := hP v hx
  have : ev_set h1 a k v = h1 := by
    funext i j
    unfold ev_set
    split
    · rename_i z; rw [z.1, z.2, e]
    · rfl
  rw [this] at q
  exact q
/-! longs -/
theorem l_add (x y : Int64) (h1 : -4611686018427387904 ≤ x.toInt) (h2 : x.toInt < 4611686018427387904) (h3 : -4611686018427387904 ≤ y.toInt) (h4 : y.toInt < 4611686018427387904) : (x + y).toInt = x.toInt + y.toInt := by
  rw [Int64.toInt_add]
  exact Int.bmod_eq_of_le (by omega) (by omega)
theorem l_sub (x y : Int64) (h1 : -4611686018427387904 ≤ x.toInt) (h2 : x.toInt < 4611686018427387904) (h3 : -4611686018427387904 ≤ y.toInt) (h4 : y.toInt < 4611686018427387904) : (x - y).toInt = x.toInt - y.toInt := by
  rw [Int64.toInt_sub]
  exact Int.bmod_eq_of_le (by omega) (by omega)
theorem l_2i (x : Int64) (h1 : -2147483648 ≤ x.toInt) (h2 : x.toInt ≤ 2147483647) : x.toInt32.toInt = x.toInt := by
  rw [Int64.toInt_toInt32]
  exact Int.bmod_eq_of_le (by omega) (by omega)
theorem l_cmp (x y : Int64) : ((lg_cmp x y).toInt < 0 ↔ x.toInt < y.toInt) ∧ (0 < (lg_cmp x y).toInt ↔ y.toInt < x.toInt) := by
  unfold lg_cmp
  simp only [gt_iff_lt, Int64.lt_iff_toInt_lt, ← Int64.toInt_inj]
  have e1 : (1 : Int32).toInt = 1 := by decide
  have e0 : (0 : Int32).toInt = 0 := by decide
  have em : (-1 : Int32).toInt = -1 := by decide
  split
  · rw [e1]; omega
  · split
    · rw [e0]; omega
    · rw [em]; omega
theorem l_lits : (0 : Int64).toInt = 0 ∧ (1 : Int64).toInt = 1 ∧ (4 : Int64).toInt = 4 := by decide
theorem B.l255 (x : Int64) : B (x &&& 255).toInt32 0 255 := by
  have h1 : (x &&& 255).toBitVec.toNat ≤ 255 := by
    rw [Int64.toBitVec_and, BitVec.toNat_and]
    exact Nat.and_le_right
  have h2 : (x &&& 255).toInt32.toBitVec.toNat = (x &&& 255).toBitVec.toNat := by
    rw [Int64.toBitVec_toInt32, BitVec.signExtend_eq_setWidth_of_le _ (by decide), BitVec.toNat_setWidth]
    exact Nat.mod_eq_of_lt (by omega)
  have h3 := w_of_nat (x &&& 255).toInt32 (by omega)
  unfold B
  rw [h3, h2]
  exact ⟨by omega, by omega⟩
/-! counting loops -/
theorem L_init {x : Int32} {l u U : Int} {n : Nat} (h : B x l u) (hn : U + 1 - l ≤ (n : Int)) : U + 1 - x.toInt ≤ (n : Int) := by have := h.1; omega
theorem L_zero {x : Int32} {l u U : Int} (h : B x l u) (hU : u ≤ U) : ¬ U + 1 - x.toInt ≤ ((0 : Nat) : Int) := by have := h.2; omega
theorem L_up {x y : Int32} {U : Int} {n : Nat} (hm : U + 1 - x.toInt ≤ ((n + 1 : Nat) : Int)) (e : x.toInt + 1 ≤ y.toInt) : U + 1 - y.toInt ≤ (n : Int) := by omega
theorem M_init {x : Int32} {l u U : Int} {n : Nat} (h : B x l u) (hn : u + 1 - U ≤ (n : Int)) : x.toInt + 1 - U ≤ (n : Int) := by have := h.2; omega
theorem M_zero {x : Int32} {l u U : Int} (h : B x l u) (hU : U ≤ l) : ¬ x.toInt + 1 - U ≤ ((0 : Nat) : Int) := by have := h.1; omega
theorem M_dn {x y : Int32} {U : Int} {n : Nat} (hm : x.toInt + 1 - U ≤ ((n + 1 : Nat) : Int)) (e : y.toInt + 1 ≤ x.toInt) : y.toInt + 1 - U ≤ (n : Int) := by omega
theorem e_p1 {x y d : Int32} (e : y.toInt = x.toInt + d.toInt) (hd : 1 ≤ d.toInt) : x.toInt + 1 ≤ y.toInt := by omega
theorem e_m1 {x y d : Int32} (e : y.toInt = x.toInt + d.toInt) (hd : d.toInt ≤ -1) : y.toInt + 1 ≤ x.toInt := by omega
/-! leaves -/
abbrev BL (x : Int64) (l u : Int) : Prop := l ≤ x.toInt ∧ x.toInt ≤ u
theorem B.long {x : Int32} {l u : Int} (h : B x l u) : BL x.toInt64 l u := by
  unfold BL
  rw [Int32.toInt_toInt64]
  exact h
theorem w_any {mi : MI} {args : List Value} {G : Geo} {h : Hp} {r : Int32} (k : EvD mi args G h r h) : EvP mi args G h (fun _ => True) := k.p trivial
theorem w_isWithin (G : Geo) (h : Hp) (v a b : Int32) {l l' u u' : Int} (ha : B a l l') (hb : B b u' u) : EvP mi_X9_isWithin [.int v, .int a, .int b] G h (fun r => B r 0 1 ∧ (¬ r = 0 → B v l u)) := (c_isWithin G h v a b).p ⟨z_wi_01 v a b, z_wi_B ha hb⟩
theorem z_in_01 (v a b : Int64) : B (z_in v a b) 0 1 := by
  unfold z_in
  split
  · decide
  · split <;> decide
theorem z_in_le {v a b : Int64} (h : ¬ z_in v a b = 0) : a.toInt ≤ v.toInt ∧ v.toInt ≤ b.toInt := by
  unfold z_in at h
  by_cases q1 : lg_cmp v a < 0
  · rw [if_pos q1] at h; exact absurd rfl h
  · rw [if_neg q1] at h
    by_cases q2 : 0 < lg_cmp v b
    · rw [if_pos q2] at h; exact absurd rfl h
    · have e1 : a ≤ v := (lg_cmp_ge v a).mp (Int32.not_lt.mp q1)
      rw [Int64.le_iff_toInt_le] at e1
      refine ⟨e1, ?_⟩
      by_cases q3 : b.toInt < v.toInt
      · exfalso
        apply q2
        unfold lg_cmp
        simp only [gt_iff_lt, Int64.lt_iff_toInt_lt]
        rw [if_pos q3]
        decide
      · omega
theorem w_in (G : Geo) (h : Hp) (v : Int32) (a b : Int64) {l l' u u' : Int} (ha : BL a l l') (hb : BL b u' u) : EvP mi_X10_in [.long v.toInt64, .long a, .long b] G h (fun r => B r 0 1 ∧ (¬ r = 0 → B v l u)) := (c_in G h v.toInt64 a b).p ⟨z_in_01 _ a b, fun e => by
  have := z_in_le e
  rw [Int32.toInt_toInt64] at this
  have := ha.1
  have := hb.2
  exact ⟨by omega, by omega⟩⟩
theorem w_in0 (G : Geo) (h : Hp) (v a b : Int64) : EvP mi_X10_in [.long v, .long a, .long b] G h (fun r => B r 0 1) := (c_in G h v a b).p (z_in_01 v a b)
theorem w_max {l u a b c d : Int} (G : Geo) (h : Hp) (x y : Int32) (hx : B x a b) (hy : B y c d) (h1 : l ≤ a ∨ l ≤ c) (h2 : b ≤ u) (h3 : d ≤ u) : EvP mi_J9_max_7cf53 [.int x, .int y] G h (fun r => B r l u) := (c_max G h x y).p (z_max_B hx hy h1 h2 h3)
theorem w_min {l u a b c d : Int} (G : Geo) (h : Hp) (x y : Int32) (hx : B x a b) (hy : B y c d) (h1 : l ≤ a) (h2 : l ≤ c) (h3 : b ≤ u ∨ d ≤ u) : EvP mi_J9_min_7cf53 [.int x, .int y] G h (fun r => B r l u) := (c_min G h x y).p (z_min_B hx hy h1 h2 h3)
theorem w_inR (G : Geo) (h : Hp) (v : Int32) (a b : Int64) {l u : Int} (ha : BL a l l) (hb : BL b u u) : EvP mi_X10_in [.long v.toInt64, .long a, .long b] G h (fun r => B r 0 1 ∧ (¬ r = 0 → B v l u) ∧ (¬ r.toInt = 0 → l ≤ v.toInt ∧ v.toInt ≤ u) ∧ (r.toInt = 0 → v.toInt < l ∨ u < v.toInt)) := (c_in G h v.toInt64 a b).p (by
  have e1 : ¬ z_in v.toInt64 a b = 0 → B v l u := fun e => by
    have := z_in_le e
    rw [Int32.toInt_toInt64] at this
    have := ha.1
    have := hb.2
    exact ⟨by omega, by omega⟩
  have e0 : (0 : Int32).toInt = 0 := by decide
  refine ⟨z_in_01 _ a b, e1, fun q => e1 (fun z => q (by rw [z]; exact e0)), fun q => ?_⟩
  have q2 : z_in v.toInt64 a b = 0 := Int32.toInt_inj.mp (by rw [q, e0])
  unfold z_in at q2
  by_cases q3 : lg_cmp v.toInt64 a < 0
  · left
    have := (l_cmp v.toInt64 a).1.mp (by have := w_lt q3; omega)
    rw [Int32.toInt_toInt64] at this
    have := ha.2
    omega
  · rw [if_neg q3] at q2
    by_cases q4 : 0 < lg_cmp v.toInt64 b
    · right
      have := (l_cmp v.toInt64 b).2.mp (by have := w_lt q4; omega)
      rw [Int32.toInt_toInt64] at this
      have := hb.1
      omega
    · rw [if_neg q4] at q2
      exact absurd q2 (by decide))
theorem B.c4 {x : Int32} (h : B x 0 3) : x = 0 ∨ x = 1 ∨ x = 2 ∨ x = 3 := by
  have := h.1; have := h.2
  simp only [← Int32.toInt_inj, Int32.reduceToInt]
  omega
theorem B.c6 {x : Int32} (h : B x 0 5) : x = 0 ∨ x = 1 ∨ x = 2 ∨ x = 3 ∨ x = 4 ∨ x = 5 := by
  have := h.1; have := h.2
  simp only [← Int32.toInt_inj, Int32.reduceToInt]
  omega
theorem B.c10 {x : Int32} (h : B x 0 9) : x = 0 ∨ x = 1 ∨ x = 2 ∨ x = 3 ∨ x = 4 ∨ x = 5 ∨ x = 6 ∨ x = 7 ∨ x = 8 ∨ x = 9 := by
  have := h.1; have := h.2
  simp only [← Int32.toInt_inj, Int32.reduceToInt]
  omega
theorem sw_or3_0 {x : Int32} (h : ¬ x.toInt < 0 ∧ ¬ 2 < x.toInt) : x = 0 ∨ x = 1 ∨ x = 2 := by
  have := h.1; have := h.2
  simp only [← Int32.toInt_inj, Int32.reduceToInt]
  omega
theorem sw_or6_0 {x : Int32} (h : ¬ x.toInt < 0 ∧ ¬ 5 < x.toInt) : x = 0 ∨ x = 1 ∨ x = 2 ∨ x = 3 ∨ x = 4 ∨ x = 5 := by
  have := h.1; have := h.2
  simp only [← Int32.toInt_inj, Int32.reduceToInt]
  omega
theorem sw_or7_0 {x : Int32} (h : ¬ x.toInt < 0 ∧ ¬ 6 < x.toInt) : x = 0 ∨ x = 1 ∨ x = 2 ∨ x = 3 ∨ x = 4 ∨ x = 5 ∨ x = 6 := by
  have := h.1; have := h.2
  simp only [← Int32.toInt_inj, Int32.reduceToInt]
  omega
theorem sw_or9_0 {x : Int32} (h : ¬ x.toInt < 0 ∧ ¬ 8 < x.toInt) : x = 0 ∨ x = 1 ∨ x = 2 ∨ x = 3 ∨ x = 4 ∨ x = 5 ∨ x = 6 ∨ x = 7 ∨ x = 8 := by
  have := h.1; have := h.2
  simp only [← Int32.toInt_inj, Int32.reduceToInt]
  omega

