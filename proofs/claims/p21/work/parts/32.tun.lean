def z_gr (x : Int32) : Int32 := if x >>> (11 &&& 31) &&& 1 = 0 then if x >>> ((11 + (-1)) &&& 31) &&& 1 = 0 then if x >>> (((11 + (-1)) + (-1)) &&& 31) &&& 1 = 0 then if x >>> ((((11 + (-1)) + (-1)) + (-1)) &&& 31) &&& 1 = 0 then if x >>> (((((11 + (-1)) + (-1)) + (-1)) + (-1)) &&& 31) &&& 1 = 0 then if x >>> ((((((11 + (-1)) + (-1)) + (-1)) + (-1)) + (-1)) &&& 31) &&& 1 = 0 then if x >>> (((((((11 + (-1)) + (-1)) + (-1)) + (-1)) + (-1)) + (-1)) &&& 31) &&& 1 = 0 then if x >>> ((((((((11 + (-1)) + (-1)) + (-1)) + (-1)) + (-1)) + (-1)) + (-1)) &&& 31) &&& 1 = 0 then if x >>> (((((((((11 + (-1)) + (-1)) + (-1)) + (-1)) + (-1)) + (-1)) + (-1)) + (-1)) &&& 31) &&& 1 = 0 then if x >>> ((((((((((11 + (-1)) + (-1)) + (-1)) + (-1)) + (-1)) + (-1)) + (-1)) + (-1)) + (-1)) &&& 31) &&& 1 = 0 then if x >>> (((((((((((11 + (-1)) + (-1)) + (-1)) + (-1)) + (-1)) + (-1)) + (-1)) + (-1)) + (-1)) + (-1)) &&& 31) &&& 1 = 0 then if x >>> ((((((((((((11 + (-1)) + (-1)) + (-1)) + (-1)) + (-1)) + (-1)) + (-1)) + (-1)) + (-1)) + (-1)) + (-1)) &&& 31) &&& 1 = 0 then -4 else (((((((((((11 + (-1)) + (-1)) + (-1)) + (-1)) + (-1)) + (-1)) + (-1)) + (-1)) + (-1)) + (-1)) + (-1)) else ((((((((((11 + (-1)) + (-1)) + (-1)) + (-1)) + (-1)) + (-1)) + (-1)) + (-1)) + (-1)) + (-1)) else (((((((((11 + (-1)) + (-1)) + (-1)) + (-1)) + (-1)) + (-1)) + (-1)) + (-1)) + (-1)) else ((((((((11 + (-1)) + (-1)) + (-1)) + (-1)) + (-1)) + (-1)) + (-1)) + (-1)) else (((((((11 + (-1)) + (-1)) + (-1)) + (-1)) + (-1)) + (-1)) + (-1)) else ((((((11 + (-1)) + (-1)) + (-1)) + (-1)) + (-1)) + (-1)) else (((((11 + (-1)) + (-1)) + (-1)) + (-1)) + (-1)) else ((((11 + (-1)) + (-1)) + (-1)) + (-1)) else (((11 + (-1)) + (-1)) + (-1)) else ((11 + (-1)) + (-1)) else (11 + (-1)) else 11
def z_ls (x : Int32) : Int32 := if x = 0 then -4 else z_bc ((x &&& -x) - 1)
def z_mv (x k : Int32) : Int32 := if k < 0 then x >>> (-k &&& 31) else x <<< (k &&& 31)
def z_goes (a k n : Int32) : Int32 := if a = 0 then 1 else if z_ls a + k < 0 then 0 else if n ≤ z_gr a + k then 0 else 1
def gr_ck (n : Nat) : Bool := decide (B (z_gr (nI (n + 1))) 0 11) && Nat.blt (n + 1) (2 ^ ((z_gr (nI (n + 1))).toInt.toNat + 1)) && decide (B (z_ls (nI (n + 1))) 0 11)
def ck_all (f : Nat → Bool) : Nat → Bool
  | 0 => true
  | n + 1 => f n && ck_all f n
theorem ck_at {f : Nat → Bool} : ∀ {n : Nat}, ck_all f n = true → ∀ i, i < n → f i = true
  | 0, _, i, hi => absurd hi (Nat.not_lt_zero i)
  | n + 1, h, i, hi => by
    unfold ck_all at h
    rw [Bool.and_eq_true] at h
    by_cases e : i = n
    · rw [e]; exact h.1
    · exact ck_at h.2 i (by omega)
theorem gr_all : ck_all gr_ck 4095 = true := by decide +kernel
theorem B.nI_eq {x : Int32} {u : Int} (h : B x 0 u) : x = nI x.toInt.toNat := by
  have h1 := h.1
  have e := w_nat x h1
  have : x.toInt.toNat = x.toBitVec.toNat := by omega
  rw [this]
  unfold nI
  apply Int32.toBitVec_inj.mp
  simp
theorem gr_of {x : Int32} (h : B x 1 4095) : B (z_gr x) 0 11 ∧ x.toInt < 2 ^ ((z_gr x).toInt.toNat + 1) ∧ B (z_ls x) 0 11 := by
  have h1 := h.1
  have h2 := h.2
  have e := (h.mono (by decide) (by decide) : B x 0 4095).nI_eq
  have c := ck_at gr_all (x.toInt.toNat - 1) (by omega)
  have e2 : x.toInt.toNat - 1 + 1 = x.toInt.toNat := by omega
  unfold gr_ck at c
  rw [e2, ← e] at c
  simp only [Bool.and_eq_true, decide_eq_true_eq] at c
  have c2 : x.toInt.toNat < 2 ^ ((z_gr x).toInt.toNat + 1) := Nat.le_of_ble_eq_true c.1.2
  refine ⟨c.1.1, ?_, c.2⟩
  have : ((x.toInt.toNat : Nat) : Int) < ((2 ^ ((z_gr x).toInt.toNat + 1) : Nat) : Int) := by exact_mod_cast c2
  rw [Int.toNat_of_nonneg (by omega)] at this
  push_cast at this
  exact this
theorem B.shr {x y : Int32} {u : Int} (h : B x 0 u) : B (x >>> y) 0 u := by
  have h1 := h.1
  have h2 := h.2
  have e : (x >>> y).toInt = x.toInt >>> (y.toBitVec.smod 32).toNat := by
    show (x >>> y).toBitVec.toInt = _
    rw [Int32.toBitVec_shiftRight, BitVec.sshiftRight_eq', BitVec.toInt_sshiftRight]
    rfl
  unfold B
  rw [e, Int.shiftRight_eq_div_pow]
  have q := Int.ediv_le_self ((2 ^ (y.toBitVec.smod 32).toNat : Nat) : Int) h1
  exact ⟨Int.ediv_nonneg h1 (Int.natCast_nonneg _), Int.le_trans q h2⟩
theorem shl_nat (x : Int32) (y : Int32) (n : Nat) (hn : (y.toBitVec.smod 32).toNat = n) : (x <<< y).toBitVec.toNat = x.toBitVec.toNat * 2 ^ n % 2 ^ 32 := by
  rw [Int32.toBitVec_shiftLeft, BitVec.shiftLeft_eq', BitVec.toNat_shiftLeft, hn, Nat.shiftLeft_eq]
theorem B.shl {x : Int32} {k : Int32} {g : Nat} (h : 0 ≤ x.toInt) (hx : x.toInt < 2 ^ (g + 1)) (hk : B k 0 11) (hg : (g : Int) + k.toInt < 12) : B (x <<< (k &&& 31)) 0 4095 := by
  have e := w_nat x h
  have hx2 : x.toBitVec.toNat < 2 ^ (g + 1) := by
    have : ((x.toBitVec.toNat : Nat) : Int) < ((2 ^ (g + 1) : Nat) : Int) := by rw [← e]; push_cast; exact hx
    exact_mod_cast this
  obtain ⟨n, hn, hn2⟩ : ∃ n : Nat, k.toInt = (n : Int) ∧ ((k &&& 31).toBitVec.smod 32).toNat = n := by
    rcases hk.c12 with rfl | rfl | rfl | rfl | rfl | rfl | rfl | rfl | rfl | rfl | rfl | rfl
    · exact ⟨0, by decide, by decide⟩
    · exact ⟨1, by decide, by decide⟩
    · exact ⟨2, by decide, by decide⟩
    · exact ⟨3, by decide, by decide⟩
    · exact ⟨4, by decide, by decide⟩
    · exact ⟨5, by decide, by decide⟩
    · exact ⟨6, by decide, by decide⟩
    · exact ⟨7, by decide, by decide⟩
    · exact ⟨8, by decide, by decide⟩
    · exact ⟨9, by decide, by decide⟩
    · exact ⟨10, by decide, by decide⟩
    · exact ⟨11, by decide, by decide⟩
  have q := shl_nat x (k &&& 31) n hn2
  have q2 : x.toBitVec.toNat * 2 ^ n < 2 ^ 12 := by
    calc x.toBitVec.toNat * 2 ^ n < 2 ^ (g + 1) * 2 ^ n := Nat.mul_lt_mul_of_pos_right hx2 (Nat.pow_pos (by decide))
      _ = 2 ^ (g + 1 + n) := (Nat.pow_add 2 _ _).symm
      _ ≤ 2 ^ 12 := Nat.pow_le_pow_right (by decide) (by omega)
  rw [Nat.mod_eq_of_lt (by omega)] at q
  have q3 := w_of_nat (x <<< (k &&& 31)) (by omega)
  unfold B
  rw [q3]
  exact ⟨by omega, by omega⟩
theorem and_or_sub {x s y : Int32} (h : x &&& s = x) : x &&& (s ||| y) = x := by
  apply Int32.toBitVec_inj.mp
  have h' := congrArg Int32.toBitVec h
  rw [Int32.toBitVec_and] at h'
  rw [Int32.toBitVec_and, Int32.toBitVec_or]
  ext i hi
  have hb := congrArg (fun v : BitVec 32 => v[i]) h'
  simp only [BitVec.getElem_and] at hb
  simp only [BitVec.getElem_and, BitVec.getElem_or]
  cases e : x.toBitVec[i] <;> simp_all
theorem and_or_self (s y : Int32) : y &&& (s ||| y) = y := by
  apply Int32.toBitVec_inj.mp
  rw [Int32.toBitVec_and, Int32.toBitVec_or]
  ext i hi
  simp only [BitVec.getElem_and, BitVec.getElem_or]
  cases e : y.toBitVec[i] <;> simp
theorem sub_le {x s : Int32} {u : Int} (h : x &&& s = x) (hs : B s 0 u) : x.toInt ≤ s.toInt := by
  have q : B (x &&& s) 0 s.toInt := B.and (⟨hs.1, Int.le_refl _⟩ : B s 0 s.toInt) (Int.le_refl 0)
  rw [h] at q
  exact q.2
/-- a chord that a tune's all holds, moved by a key in which it goes -/
theorem mv_B {x a k n : Int32} (hx : B x 0 4095) (ha : B a 0 4095) (hs : x &&& a = x) (hk : B k (-11) 11) (hn : B n 0 12) (h : ¬ z_goes a k n = 0) : B (z_mv x k) 0 4095 := by
  unfold z_mv
  by_cases q : k < 0
  · rw [if_pos q]
    exact hx.shr
  · rw [if_neg q]
    have q1 := w_nlt q
    have e0 : (0 : Int32).toInt = 0 := by decide
    have hle := sub_le hs ha
    have k0 : B k 0 11 := ⟨by omega, hk.2⟩
    unfold z_goes at h
    by_cases q2 : a = 0
    · subst q2
      refine B.shl (g := 0) hx.1 (by omega) k0 ?_
      have := k0.2
      omega
    · rw [if_neg q2] at h
      have h1 : B a 1 4095 := R_neL ha (by decide : B 0 0 0) q2 (by decide)
      obtain ⟨g1, g2, g3⟩ := gr_of h1
      by_cases q3 : z_ls a + k < 0
      · rw [if_pos q3] at h; exact absurd rfl h
      · rw [if_neg q3] at h
        by_cases q4 : n ≤ z_gr a + k
        · rw [if_pos q4] at h; exact absurd rfl h
        · have q5 := w_nle q4
          have q6 := (B.add g1 k0 (by decide) (by decide)).2
          rw [q6] at q5
          have g4 := g1.1
          refine B.shl (g := (z_gr a).toInt.toNat) hx.1 (by omega) k0 ?_
          rw [Int.toNat_of_nonneg g4]
          have := hn.2
          omega

def s_or (h : Hp) (c : Nat) : Nat → Int32
  | 0 => 0
  | i + 1 => s_or h c i ||| h c i

set_option maxRecDepth 100000 in
set_option maxHeartbeats 4000000 in
theorem c_leastOf (G : Geo) (h : Hp) (x : Int32) : EvD mi_X9_leastOf [.int x] G h (z_ls x) (h) := by
  refine EvD.of (lo := [some (.int x)]) pf_X9_leastOf ok_X9_leastOf rfl rfl ?_
  refine ev_iload_n rfl rfl rfl ?_
  refine ev_if_ne rfl rfl (fun c_1 => ?_) (fun c_1 => ?_)
  · refine ev_iload_n rfl rfl rfl ?_
    refine ev_iload_n rfl rfl rfl ?_
    refine ev_ineg rfl rfl ?_
    refine ev_iand rfl rfl ?_
    refine ev_iconst (v := 1) rfl rfl (by decide) ?_
    refine ev_isub rfl rfl ?_
    refine ev_S1D rfl rfl lk_X9_341 st_J6_bitCount_0f7a4 rfl rfl (c_bitCount _ _ _) ?_
    exact ev_iret rfl rfl rfl (⟨congrArg (fun z => some (Value.int z)) (by simp only [z_ls, if_neg c_1]), rfl, rfl⟩)
  · refine ev_bipush (v := (-4)) rfl rfl (by decide) ?_
    refine ev_goto rfl rfl ?_
    exact ev_iret rfl rfl rfl (⟨congrArg (fun z => some (Value.int z)) (by simp only [z_ls, if_pos c_1]), rfl, rfl⟩)

set_option maxRecDepth 100000 in
set_option maxHeartbeats 4000000 in
theorem c_greatestOf (G : Geo) (h : Hp) (x : Int32) : EvD mi_X9_greatestOf [.int x] G h (z_gr x) (h) := by
  refine EvD.of (lo := [some (.int x), none]) pf_X9_greatestOf ok_X9_greatestOf rfl rfl ?_
  refine ev_bipush (v := 11) rfl rfl (by decide) ?_
  refine ev_istore_n rfl rfl rfl rfl ?_
  dsimp only [List.set]
  refine ev_iload_n rfl rfl rfl ?_
  refine ev_if_lt rfl rfl (fun z_ => absurd z_ (by decide)) (fun c_4 => ?_)
  refine ev_iload_n rfl rfl rfl ?_
  refine ev_iload_n rfl rfl rfl ?_
  refine ev_ishr rfl rfl ?_
  refine ev_iconst (v := 1) rfl rfl (by decide) ?_
  refine ev_iand rfl rfl ?_
  refine ev_if_eq rfl rfl (fun c_12 => ?_) (fun c_12 => ?_)
  · refine ev_iinc (y := (-1)) rfl rfl rfl (by decide) rfl rfl ?_
    dsimp only [List.set]
    refine ev_goto rfl rfl ?_
    refine ev_iload_n rfl rfl rfl ?_
    refine ev_if_lt rfl rfl (fun z_ => absurd z_ (by decide)) (fun c_4b => ?_)
    refine ev_iload_n rfl rfl rfl ?_
    refine ev_iload_n rfl rfl rfl ?_
    refine ev_ishr rfl rfl ?_
    refine ev_iconst (v := 1) rfl rfl (by decide) ?_
    refine ev_iand rfl rfl ?_
    refine ev_if_eq rfl rfl (fun c_12b => ?_) (fun c_12b => ?_)
    · refine ev_iinc (y := (-1)) rfl rfl rfl (by decide) rfl rfl ?_
      dsimp only [List.set]
      refine ev_goto rfl rfl ?_
      refine ev_iload_n rfl rfl rfl ?_
      refine ev_if_lt rfl rfl (fun z_ => absurd z_ (by decide)) (fun c_4bb => ?_)
      refine ev_iload_n rfl rfl rfl ?_
      refine ev_iload_n rfl rfl rfl ?_
      refine ev_ishr rfl rfl ?_
      refine ev_iconst (v := 1) rfl rfl (by decide) ?_
      refine ev_iand rfl rfl ?_
      refine ev_if_eq rfl rfl (fun c_12bb => ?_) (fun c_12bb => ?_)
      · refine ev_iinc (y := (-1)) rfl rfl rfl (by decide) rfl rfl ?_
        dsimp only [List.set]
        refine ev_goto rfl rfl ?_
        refine ev_iload_n rfl rfl rfl ?_
        refine ev_if_lt rfl rfl (fun z_ => absurd z_ (by decide)) (fun c_4bbb => ?_)
        refine ev_iload_n rfl rfl rfl ?_
        refine ev_iload_n rfl rfl rfl ?_
        refine ev_ishr rfl rfl ?_
        refine ev_iconst (v := 1) rfl rfl (by decide) ?_
        refine ev_iand rfl rfl ?_
        refine ev_if_eq rfl rfl (fun c_12bbb => ?_) (fun c_12bbb => ?_)
        · refine ev_iinc (y := (-1)) rfl rfl rfl (by decide) rfl rfl ?_
          dsimp only [List.set]
          refine ev_goto rfl rfl ?_
          refine ev_iload_n rfl rfl rfl ?_
          refine ev_if_lt rfl rfl (fun z_ => absurd z_ (by decide)) (fun c_4bbbb => ?_)
          refine ev_iload_n rfl rfl rfl ?_
          refine ev_iload_n rfl rfl rfl ?_
          refine ev_ishr rfl rfl ?_
          refine ev_iconst (v := 1) rfl rfl (by decide) ?_
          refine ev_iand rfl rfl ?_
          refine ev_if_eq rfl rfl (fun c_12bbbb => ?_) (fun c_12bbbb => ?_)
          · refine ev_iinc (y := (-1)) rfl rfl rfl (by decide) rfl rfl ?_
            dsimp only [List.set]
            refine ev_goto rfl rfl ?_
            refine ev_iload_n rfl rfl rfl ?_
            refine ev_if_lt rfl rfl (fun z_ => absurd z_ (by decide)) (fun c_4bbbbb => ?_)
            refine ev_iload_n rfl rfl rfl ?_
            refine ev_iload_n rfl rfl rfl ?_
            refine ev_ishr rfl rfl ?_
            refine ev_iconst (v := 1) rfl rfl (by decide) ?_
            refine ev_iand rfl rfl ?_
            refine ev_if_eq rfl rfl (fun c_12bbbbb => ?_) (fun c_12bbbbb => ?_)
            · refine ev_iinc (y := (-1)) rfl rfl rfl (by decide) rfl rfl ?_
              dsimp only [List.set]
              refine ev_goto rfl rfl ?_
              refine ev_iload_n rfl rfl rfl ?_
              refine ev_if_lt rfl rfl (fun z_ => absurd z_ (by decide)) (fun c_4bbbbbb => ?_)
              refine ev_iload_n rfl rfl rfl ?_
              refine ev_iload_n rfl rfl rfl ?_
              refine ev_ishr rfl rfl ?_
              refine ev_iconst (v := 1) rfl rfl (by decide) ?_
              refine ev_iand rfl rfl ?_
              refine ev_if_eq rfl rfl (fun c_12bbbbbb => ?_) (fun c_12bbbbbb => ?_)
              · refine ev_iinc (y := (-1)) rfl rfl rfl (by decide) rfl rfl ?_
                dsimp only [List.set]
                refine ev_goto rfl rfl ?_
                refine ev_iload_n rfl rfl rfl ?_
                refine ev_if_lt rfl rfl (fun z_ => absurd z_ (by decide)) (fun c_4bbbbbbb => ?_)
                refine ev_iload_n rfl rfl rfl ?_
                refine ev_iload_n rfl rfl rfl ?_
                refine ev_ishr rfl rfl ?_
                refine ev_iconst (v := 1) rfl rfl (by decide) ?_
                refine ev_iand rfl rfl ?_
                refine ev_if_eq rfl rfl (fun c_12bbbbbbb => ?_) (fun c_12bbbbbbb => ?_)
                · refine ev_iinc (y := (-1)) rfl rfl rfl (by decide) rfl rfl ?_
                  dsimp only [List.set]
                  refine ev_goto rfl rfl ?_
                  refine ev_iload_n rfl rfl rfl ?_
                  refine ev_if_lt rfl rfl (fun z_ => absurd z_ (by decide)) (fun c_4bbbbbbbb => ?_)
                  refine ev_iload_n rfl rfl rfl ?_
                  refine ev_iload_n rfl rfl rfl ?_
                  refine ev_ishr rfl rfl ?_
                  refine ev_iconst (v := 1) rfl rfl (by decide) ?_
                  refine ev_iand rfl rfl ?_
                  refine ev_if_eq rfl rfl (fun c_12bbbbbbbb => ?_) (fun c_12bbbbbbbb => ?_)
                  · refine ev_iinc (y := (-1)) rfl rfl rfl (by decide) rfl rfl ?_
                    dsimp only [List.set]
                    refine ev_goto rfl rfl ?_
                    refine ev_iload_n rfl rfl rfl ?_
                    refine ev_if_lt rfl rfl (fun z_ => absurd z_ (by decide)) (fun c_4bbbbbbbbb => ?_)
                    refine ev_iload_n rfl rfl rfl ?_
                    refine ev_iload_n rfl rfl rfl ?_
                    refine ev_ishr rfl rfl ?_
                    refine ev_iconst (v := 1) rfl rfl (by decide) ?_
                    refine ev_iand rfl rfl ?_
                    refine ev_if_eq rfl rfl (fun c_12bbbbbbbbb => ?_) (fun c_12bbbbbbbbb => ?_)
                    · refine ev_iinc (y := (-1)) rfl rfl rfl (by decide) rfl rfl ?_
                      dsimp only [List.set]
                      refine ev_goto rfl rfl ?_
                      refine ev_iload_n rfl rfl rfl ?_
                      refine ev_if_lt rfl rfl (fun z_ => absurd z_ (by decide)) (fun c_4bbbbbbbbbb => ?_)
                      refine ev_iload_n rfl rfl rfl ?_
                      refine ev_iload_n rfl rfl rfl ?_
                      refine ev_ishr rfl rfl ?_
                      refine ev_iconst (v := 1) rfl rfl (by decide) ?_
                      refine ev_iand rfl rfl ?_
                      refine ev_if_eq rfl rfl (fun c_12bbbbbbbbbb => ?_) (fun c_12bbbbbbbbbb => ?_)
                      · refine ev_iinc (y := (-1)) rfl rfl rfl (by decide) rfl rfl ?_
                        dsimp only [List.set]
                        refine ev_goto rfl rfl ?_
                        refine ev_iload_n rfl rfl rfl ?_
                        refine ev_if_lt rfl rfl (fun z_ => absurd z_ (by decide)) (fun c_4bbbbbbbbbbb => ?_)
                        refine ev_iload_n rfl rfl rfl ?_
                        refine ev_iload_n rfl rfl rfl ?_
                        refine ev_ishr rfl rfl ?_
                        refine ev_iconst (v := 1) rfl rfl (by decide) ?_
                        refine ev_iand rfl rfl ?_
                        refine ev_if_eq rfl rfl (fun c_12bbbbbbbbbbb => ?_) (fun c_12bbbbbbbbbbb => ?_)
                        · refine ev_iinc (y := (-1)) rfl rfl rfl (by decide) rfl rfl ?_
                          dsimp only [List.set]
                          refine ev_goto rfl rfl ?_
                          refine ev_iload_n rfl rfl rfl ?_
                          refine ev_if_lt rfl rfl (fun c_4bbbbbbbbbbbb => ?_) (fun z_ => absurd (by decide) z_)
                          refine ev_bipush (v := (-4)) rfl rfl (by decide) ?_
                          exact ev_iret rfl rfl rfl (⟨congrArg (fun z => some (Value.int z)) (by simp only [z_gr, if_neg c_4, if_pos c_12, if_neg c_4b, if_pos c_12b, if_neg c_4bb, if_pos c_12bb, if_neg c_4bbb, if_pos c_12bbb, if_neg c_4bbbb, if_pos c_12bbbb, if_neg c_4bbbbb, if_pos c_12bbbbb, if_neg c_4bbbbbb, if_pos c_12bbbbbb, if_neg c_4bbbbbbb, if_pos c_12bbbbbbb, if_neg c_4bbbbbbbb, if_pos c_12bbbbbbbb, if_neg c_4bbbbbbbbb, if_pos c_12bbbbbbbbb, if_neg c_4bbbbbbbbbb, if_pos c_12bbbbbbbbbb, if_neg c_4bbbbbbbbbbb, if_pos c_12bbbbbbbbbbb, if_pos c_4bbbbbbbbbbbb]), rfl, rfl⟩)
                        · refine ev_iload_n rfl rfl rfl ?_
                          exact ev_iret rfl rfl rfl (⟨congrArg (fun z => some (Value.int z)) (by simp only [z_gr, if_neg c_4, if_pos c_12, if_neg c_4b, if_pos c_12b, if_neg c_4bb, if_pos c_12bb, if_neg c_4bbb, if_pos c_12bbb, if_neg c_4bbbb, if_pos c_12bbbb, if_neg c_4bbbbb, if_pos c_12bbbbb, if_neg c_4bbbbbb, if_pos c_12bbbbbb, if_neg c_4bbbbbbb, if_pos c_12bbbbbbb, if_neg c_4bbbbbbbb, if_pos c_12bbbbbbbb, if_neg c_4bbbbbbbbb, if_pos c_12bbbbbbbbb, if_neg c_4bbbbbbbbbb, if_pos c_12bbbbbbbbbb, if_neg c_4bbbbbbbbbbb, if_neg c_12bbbbbbbbbbb]), rfl, rfl⟩)
                      · refine ev_iload_n rfl rfl rfl ?_
                        exact ev_iret rfl rfl rfl (⟨congrArg (fun z => some (Value.int z)) (by simp only [z_gr, if_neg c_4, if_pos c_12, if_neg c_4b, if_pos c_12b, if_neg c_4bb, if_pos c_12bb, if_neg c_4bbb, if_pos c_12bbb, if_neg c_4bbbb, if_pos c_12bbbb, if_neg c_4bbbbb, if_pos c_12bbbbb, if_neg c_4bbbbbb, if_pos c_12bbbbbb, if_neg c_4bbbbbbb, if_pos c_12bbbbbbb, if_neg c_4bbbbbbbb, if_pos c_12bbbbbbbb, if_neg c_4bbbbbbbbb, if_pos c_12bbbbbbbbb, if_neg c_4bbbbbbbbbb, if_neg c_12bbbbbbbbbb]), rfl, rfl⟩)
                    · refine ev_iload_n rfl rfl rfl ?_
                      exact ev_iret rfl rfl rfl (⟨congrArg (fun z => some (Value.int z)) (by simp only [z_gr, if_neg c_4, if_pos c_12, if_neg c_4b, if_pos c_12b, if_neg c_4bb, if_pos c_12bb, if_neg c_4bbb, if_pos c_12bbb, if_neg c_4bbbb, if_pos c_12bbbb, if_neg c_4bbbbb, if_pos c_12bbbbb, if_neg c_4bbbbbb, if_pos c_12bbbbbb, if_neg c_4bbbbbbb, if_pos c_12bbbbbbb, if_neg c_4bbbbbbbb, if_pos c_12bbbbbbbb, if_neg c_4bbbbbbbbb, if_neg c_12bbbbbbbbb]), rfl, rfl⟩)
                  · refine ev_iload_n rfl rfl rfl ?_
                    exact ev_iret rfl rfl rfl (⟨congrArg (fun z => some (Value.int z)) (by simp only [z_gr, if_neg c_4, if_pos c_12, if_neg c_4b, if_pos c_12b, if_neg c_4bb, if_pos c_12bb, if_neg c_4bbb, if_pos c_12bbb, if_neg c_4bbbb, if_pos c_12bbbb, if_neg c_4bbbbb, if_pos c_12bbbbb, if_neg c_4bbbbbb, if_pos c_12bbbbbb, if_neg c_4bbbbbbb, if_pos c_12bbbbbbb, if_neg c_4bbbbbbbb, if_neg c_12bbbbbbbb]), rfl, rfl⟩)
                · refine ev_iload_n rfl rfl rfl ?_
                  exact ev_iret rfl rfl rfl (⟨congrArg (fun z => some (Value.int z)) (by simp only [z_gr, if_neg c_4, if_pos c_12, if_neg c_4b, if_pos c_12b, if_neg c_4bb, if_pos c_12bb, if_neg c_4bbb, if_pos c_12bbb, if_neg c_4bbbb, if_pos c_12bbbb, if_neg c_4bbbbb, if_pos c_12bbbbb, if_neg c_4bbbbbb, if_pos c_12bbbbbb, if_neg c_4bbbbbbb, if_neg c_12bbbbbbb]), rfl, rfl⟩)
              · refine ev_iload_n rfl rfl rfl ?_
                exact ev_iret rfl rfl rfl (⟨congrArg (fun z => some (Value.int z)) (by simp only [z_gr, if_neg c_4, if_pos c_12, if_neg c_4b, if_pos c_12b, if_neg c_4bb, if_pos c_12bb, if_neg c_4bbb, if_pos c_12bbb, if_neg c_4bbbb, if_pos c_12bbbb, if_neg c_4bbbbb, if_pos c_12bbbbb, if_neg c_4bbbbbb, if_neg c_12bbbbbb]), rfl, rfl⟩)
            · refine ev_iload_n rfl rfl rfl ?_
              exact ev_iret rfl rfl rfl (⟨congrArg (fun z => some (Value.int z)) (by simp only [z_gr, if_neg c_4, if_pos c_12, if_neg c_4b, if_pos c_12b, if_neg c_4bb, if_pos c_12bb, if_neg c_4bbb, if_pos c_12bbb, if_neg c_4bbbb, if_pos c_12bbbb, if_neg c_4bbbbb, if_neg c_12bbbbb]), rfl, rfl⟩)
          · refine ev_iload_n rfl rfl rfl ?_
            exact ev_iret rfl rfl rfl (⟨congrArg (fun z => some (Value.int z)) (by simp only [z_gr, if_neg c_4, if_pos c_12, if_neg c_4b, if_pos c_12b, if_neg c_4bb, if_pos c_12bb, if_neg c_4bbb, if_pos c_12bbb, if_neg c_4bbbb, if_neg c_12bbbb]), rfl, rfl⟩)
        · refine ev_iload_n rfl rfl rfl ?_
          exact ev_iret rfl rfl rfl (⟨congrArg (fun z => some (Value.int z)) (by simp only [z_gr, if_neg c_4, if_pos c_12, if_neg c_4b, if_pos c_12b, if_neg c_4bb, if_pos c_12bb, if_neg c_4bbb, if_neg c_12bbb]), rfl, rfl⟩)
      · refine ev_iload_n rfl rfl rfl ?_
        exact ev_iret rfl rfl rfl (⟨congrArg (fun z => some (Value.int z)) (by simp only [z_gr, if_neg c_4, if_pos c_12, if_neg c_4b, if_pos c_12b, if_neg c_4bb, if_neg c_12bb]), rfl, rfl⟩)
    · refine ev_iload_n rfl rfl rfl ?_
      exact ev_iret rfl rfl rfl (⟨congrArg (fun z => some (Value.int z)) (by simp only [z_gr, if_neg c_4, if_pos c_12, if_neg c_4b, if_neg c_12b]), rfl, rfl⟩)
  · refine ev_iload_n rfl rfl rfl ?_
    exact ev_iret rfl rfl rfl (⟨congrArg (fun z => some (Value.int z)) (by simp only [z_gr, if_neg c_4, if_neg c_12]), rfl, rfl⟩)

set_option maxRecDepth 100000 in
set_option maxHeartbeats 4000000 in
theorem c_chordIn (L : Nat) (b : Bool) (h : Hp) (n : Nat) (hn : n < 6) (i : Nat) (hi : i < 24) (k : Int32) : EvD mi_X7_chordIn [.ref 28, .int (nI n), .int (nI i), .int k] (G0 L b) h (z_mv (h (30 + n) i) k) (h) := by
  refine EvD.of (lo := [some (.ref 28), some (.int (nI n)), some (.int (nI i)), some (.int k), none]) pf_X7_chordIn ok_X7_chordIn rfl rfl ?_
  refine ev_aload_n rfl rfl rfl ?_
  refine ev_getR rfl rfl fl_X7_11 rfl rfl rfl rfl ?_
  refine ev_iload_n rfl rfl rfl ?_
  refine ev_aald (y := 30 + n) (j := n) rfl rfl rfl rfl (vp_in_nI (by omega) (by decide)) (nI_clamp (by omega)) (g_tun L b hn).1 ?_
  refine ev_iload_n rfl rfl rfl ?_
  refine ev_iald rfl rfl (g_tun L b hn).2 (vp_in_nI (by omega) (by decide)) (nI_clamp (by omega)) ?_
  refine ev_istore rfl rfl rfl rfl ?_
  dsimp only [List.set]
  refine ev_iload_n rfl rfl rfl ?_
  refine ev_if_lt rfl rfl (fun c_11 => ?_) (fun c_11 => ?_)
  · refine ev_iload rfl rfl rfl ?_
    refine ev_iload_n rfl rfl rfl ?_
    refine ev_ineg rfl rfl ?_
    refine ev_ishr rfl rfl ?_
    exact ev_iret rfl rfl rfl (⟨congrArg (fun z => some (Value.int z)) (by simp only [z_mv, if_pos c_11]), rfl, rfl⟩)
  · refine ev_iload rfl rfl rfl ?_
    refine ev_iload_n rfl rfl rfl ?_
    refine ev_ishl rfl rfl ?_
    refine ev_goto rfl rfl ?_
    exact ev_iret rfl rfl rfl (⟨congrArg (fun z => some (Value.int z)) (by simp only [z_mv, if_neg c_11]), rfl, rfl⟩)

set_option maxRecDepth 100000 in
set_option maxHeartbeats 4000000 in
theorem l_whOf (L : Nat) (b : Bool) (h : Hp) (n : Nat) (hn : n < 6) (m : Nat) (hm0 : m ≤ 24) (hm : h 36 n = nI m)  : ∀ t i : Nat, i + t = m → EvQ mi_X7_whistlesOf 4 [some (.ref 28), some (.int (nI n)), some (.int (s_or h (30 + n) i)), some (.int (nI i))] [] (G0 L b) h 0 0 (fun v G' h' => v = some (.int (s_or h (30 + n) m)) ∧ G' = G0 L b ∧ h' = h) := by
  intro t
  induction t with
  | zero =>
    intro i hi
    have hi2 : i = m := by omega
    subst hi2
    refine ev_iload_n rfl rfl rfl ?_
    refine ev_aload_n rfl rfl rfl ?_
    refine ev_getR rfl rfl fl_X7_16 rfl rfl rfl rfl ?_
    refine ev_iload_n rfl rfl rfl ?_
    refine ev_iald rfl rfl rfl (vp_in_nI (by omega) (by decide)) (nI_clamp (by omega)) ?_
    refine ev_icmp_ge rfl rfl (fun c_11 => ?_) (fun z_ => absurd (by rw [hm]; exact Int32.le_refl _) z_)
    refine ev_iload_n rfl rfl rfl ?_
    exact ev_iret rfl rfl rfl (⟨rfl, rfl, rfl⟩)
  | succ t ih =>
    intro i hi
    refine ev_iload_n rfl rfl rfl ?_
    refine ev_aload_n rfl rfl rfl ?_
    refine ev_getR rfl rfl fl_X7_16 rfl rfl rfl rfl ?_
    refine ev_iload_n rfl rfl rfl ?_
    refine ev_iald rfl rfl rfl (vp_in_nI (by omega) (by decide)) (nI_clamp (by omega)) ?_
    refine ev_icmp_ge rfl rfl (fun z_ => absurd z_ (by rw [hm]; exact nI_ge (by omega) (by omega))) (fun c_11 => ?_)
    refine ev_iload_n rfl rfl rfl ?_
    refine ev_aload_n rfl rfl rfl ?_
    refine ev_getR rfl rfl fl_X7_11 rfl rfl rfl rfl ?_
    refine ev_iload_n rfl rfl rfl ?_
    refine ev_aald (y := 30 + n) (j := n) rfl rfl rfl rfl (vp_in_nI (by omega) (by decide)) (nI_clamp (by omega)) (g_tun L b hn).1 ?_
    refine ev_iload_n rfl rfl rfl ?_
    refine ev_iald rfl rfl (g_tun L b hn).2 (vp_in_nI (by omega) (by decide)) (nI_clamp (by omega)) ?_
    refine ev_ior rfl rfl ?_
    refine ev_istore_n rfl rfl rfl rfl ?_
    dsimp only [List.set]
    refine ev_iinc (y := 1) rfl rfl rfl (by decide) rfl rfl ?_
    dsimp only [List.set]
    refine ev_goto rfl rfl ?_
    have z_ := ih (i + 1) (by omega)
    simp only [s_or] at z_
    rw [nI_1 i]
    exact z_

set_option maxRecDepth 100000 in
set_option maxHeartbeats 4000000 in
theorem c_whistlesOf (L : Nat) (b : Bool) (h : Hp) (n : Nat) (hn : n < 6) (m : Nat) (hm0 : m ≤ 24) (hm : h 36 n = nI m)  : EvD mi_X7_whistlesOf [.ref 28, .int (nI n)] (G0 L b) h (s_or h (30 + n) m) (h) := by
  refine EvD.of (lo := [some (.ref 28), some (.int (nI n)), none, none]) pf_X7_whistlesOf ok_X7_whistlesOf rfl rfl ?_
  refine ev_iconst (v := 0) rfl rfl (by decide) ?_
  refine ev_istore_n rfl rfl rfl rfl ?_
  dsimp only [List.set]
  refine ev_iconst (v := 0) rfl rfl (by decide) ?_
  refine ev_istore_n rfl rfl rfl rfl ?_
  dsimp only [List.set]
  exact l_whOf L b h n hn m hm0 hm m 0 (by omega)

set_option maxRecDepth 100000 in
set_option maxHeartbeats 4000000 in
theorem c_goes (L : Nat) (b : Bool) (h : Hp) (n : Nat) (hn : n < 6) (m : Nat) (hm0 : m ≤ 24) (hm : h 36 n = nI m) (k w : Int32) : EvD mi_X7_goes [.ref 28, .int (nI n), .int k, .int w] (G0 L b) h (z_goes (s_or h (30 + n) m) k w) (h) := by
  refine EvD.of (lo := [some (.ref 28), some (.int (nI n)), some (.int k), some (.int w), none]) pf_X7_goes ok_X7_goes rfl rfl ?_
  refine ev_aload_n rfl rfl rfl ?_
  refine ev_iload_n rfl rfl rfl ?_
  refine ev_V1D rfl rfl lk_X7_36 vt_X7_whistlesOf rfl rfl rfl rfl rfl (c_whistlesOf _ _ _ n hn m hm0 hm) ?_
  refine ev_istore rfl rfl rfl rfl ?_
  dsimp only [List.set]
  refine ev_iload rfl rfl rfl ?_
  refine ev_if_eq rfl rfl (fun c_9 => ?_) (fun c_9 => ?_)
  · refine ev_iconst (v := 1) rfl rfl (by decide) ?_
    refine ev_goto rfl rfl ?_
    exact ev_iret rfl rfl rfl (⟨congrArg (fun z => some (Value.int z)) (by simp only [z_goes, if_pos c_9]), rfl, rfl⟩)
  · refine ev_iload rfl rfl rfl ?_
    refine ev_SN1D rfl rfl lk_X7_39 st_X9_leastOf rfl rfl (c_leastOf _ _ _) ?_
    refine ev_iload_n rfl rfl rfl ?_
    refine ev_iadd rfl rfl ?_
    refine ev_if_lt rfl rfl (fun c_19 => ?_) (fun c_19 => ?_)
    · refine ev_iconst (v := 0) rfl rfl (by decide) ?_
      exact ev_iret rfl rfl rfl (⟨congrArg (fun z => some (Value.int z)) (by simp only [z_goes, if_neg c_9, if_pos c_19]), rfl, rfl⟩)
    · refine ev_iload rfl rfl rfl ?_
      refine ev_SN1D rfl rfl lk_X7_42 st_X9_greatestOf rfl rfl (c_greatestOf _ _ _) ?_
      refine ev_iload_n rfl rfl rfl ?_
      refine ev_iadd rfl rfl ?_
      refine ev_iload_n rfl rfl rfl ?_
      refine ev_icmp_ge rfl rfl (fun c_30 => ?_) (fun c_30 => ?_)
      · refine ev_iconst (v := 0) rfl rfl (by decide) ?_
        exact ev_iret rfl rfl rfl (⟨congrArg (fun z => some (Value.int z)) (by simp only [z_goes, if_neg c_9, if_neg c_19, if_pos c_30]), rfl, rfl⟩)
      · refine ev_iconst (v := 1) rfl rfl (by decide) ?_
        refine ev_goto rfl rfl ?_
        exact ev_iret rfl rfl rfl (⟨congrArg (fun z => some (Value.int z)) (by simp only [z_goes, if_neg c_9, if_neg c_19, if_neg c_30]), rfl, rfl⟩)

theorem s_or_B {h : Hp} {c : Nat} (hc : ∀ i, B (h c i) 0 4095) : ∀ n, B (s_or h c n) 0 4095
  | 0 => by unfold s_or; decide
  | n + 1 => by
    unfold s_or
    exact B.or 12 (s_or_B hc n) (hc n) (by decide) (by decide) (by decide) (by decide) (by decide)
theorem s_or_sub {h : Hp} {c : Nat} : ∀ n i, i < n → h c i &&& s_or h c n = h c i
  | 0, i, hi => absurd hi (Nat.not_lt_zero i)
  | n + 1, i, hi => by
    unfold s_or
    by_cases e : i = n
    · subst e; exact and_or_self _ _
    · exact and_or_sub (s_or_sub n i (by omega))
/-- the class's tune t goes in key k -/
def KO (h : Hp) (t k : Int32) : Prop := ∀ i : Nat, (i : Int) < (h 36 t.toNatClampNeg).toInt → B (z_mv (h (30 + t.toNatClampNeg) i) k) 0 4095
theorem B.nat {x : Int32} {u : Int} (h : B x 0 u) : x = nI x.toNatClampNeg ∧ (x.toNatClampNeg : Int) = x.toInt := ⟨h.nI_eq, Int.toNat_of_nonneg h.1⟩
theorem bx_tun {n : Nat} (hn : n < 6) (i : Nat) : bx (30 + n) i = (0, 4095) := by
  rcases (show n = 0 ∨ n = 1 ∨ n = 2 ∨ n = 3 ∨ n = 4 ∨ n = 5 by omega) with rfl | rfl | rfl | rfl | rfl | rfl <;> rfl
theorem Bx.tun {h : Hp} (hB : Bx h) {n : Nat} (hn : n < 6) (i : Nat) : B (h (30 + n) i) 0 4095 := by
  have := hB (30 + n) i
  rw [bx_tun hn] at this
  exact this
theorem z_goes_01 (a k n : Int32) : B (z_goes a k n) 0 1 := by
  unfold z_goes
  split
  · decide
  · split
    · decide
    · split <;> decide
theorem w_goesK (L : Nat) (b : Bool) (h : Hp) (hB : Bx h) (t k w : Int32) (pt : B t 0 5) (pk : B k (-11) 11) (pw : B w 0 12) : EvP mi_X7_goes [.ref 28, .int t, .int k, .int w] (G0 L b) h (fun r => B r 0 1 ∧ (¬ r = 0 → KO h t k)) := by
  obtain ⟨n, e1, e2⟩ : ∃ n : Nat, t = nI n ∧ (n : Int) = t.toInt := ⟨_, pt.nat⟩
  have hn : n < 6 := by have := pt.2; omega
  subst e1
  have p36 : B (h 36 n) 0 24 := hB 36 n
  obtain ⟨m, f1, f2⟩ : ∃ m : Nat, h 36 n = nI m ∧ (m : Int) = (h 36 n).toInt := ⟨_, p36.nat⟩
  have hm : m ≤ 24 := by have := p36.2; omega
  refine (c_goes L b h n hn m hm f1 k w).p ⟨z_goes_01 _ _ _, fun q i hi => ?_⟩
  rw [nI_clamp (show n < 2 ^ 31 by omega)] at hi ⊢
  exact mv_B (hB.tun hn i) (s_or_B (hB.tun hn) m) (s_or_sub m i (by omega)) pk pw q
theorem w_chordInK (L : Nat) (b : Bool) (h : Hp) (_ : Bx h) (t i k : Int32) (pt : B t 0 5) (pi : B i 0 23) (hK : KO h t k) (hi : i.toInt < (h 36 t.toNatClampNeg).toInt) : EvP mi_X7_chordIn [.ref 28, .int t, .int i, .int k] (G0 L b) h (fun r => B r 0 4095) := by
  obtain ⟨n, e1, e2⟩ : ∃ n : Nat, t = nI n ∧ (n : Int) = t.toInt := ⟨_, pt.nat⟩
  have hn : n < 6 := by have := pt.2; omega
  subst e1
  obtain ⟨j, f1, f2⟩ : ∃ j : Nat, i = nI j ∧ (j : Int) = i.toInt := ⟨_, pi.nat⟩
  have hj : j < 24 := by have := pi.2; omega
  subst f1
  have q := hK j (by omega)
  rw [nI_clamp (show n < 2 ^ 31 by omega)] at q
  exact (c_chordIn L b h n hn j hj k).p q
theorem KO.keep {W : List (Nat × Nat)} {h h1 : Hp} {t k : Int32} (hK : KO h t k) (hJ : JW W h h1) (pt : B t 0 5) (h36 : ∀ j, wm W 36 j = false) (h30 : ∀ n j, n < 6 → wm W (30 + n) j = false) : KO h1 t k := fun i hi => by
  have e2 := pt.nat.2
  have hn : t.toNatClampNeg < 6 := by have := pt.2; omega
  rw [hJ.2 _ _ (h36 _)] at hi
  rw [hJ.2 _ _ (h30 _ _ hn)]
  exact hK i hi
theorem wm_tun {W : List (Nat × Nat)} (hW : W.all (fun q => Nat.blt 35 q.1 || Nat.blt q.1 30) = true) (n j : Nat) (hn : n < 6) : wm W (30 + n) j = false := by
  cases e : wm W (30 + n) j with
  | false => rfl
  | true =>
    exfalso
    obtain ⟨q, hq, hq2⟩ := List.any_eq_true.mp e
    have h1 := List.all_eq_true.mp hW q hq
    rw [Bool.and_eq_true] at hq2
    have e1 := Nat.eq_of_beq_eq_true hq2.1
    rw [Bool.or_eq_true] at h1
    rcases h1 with z | z
    · have := Nat.le_of_ble_eq_true z; omega
    · have := Nat.le_of_ble_eq_true z; omega
theorem w_leastOfK (G : Geo) (h : Hp) (x : Int32) (px : B x 1 4095) : EvP mi_X9_leastOf [.int x] G h (fun r => B r 0 11) := (c_leastOf G h x).p (gr_of px).2.2

