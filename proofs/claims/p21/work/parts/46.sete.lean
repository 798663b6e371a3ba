set_option maxRecDepth 100000 in
set_option maxHeartbeats 4000000 in
theorem c_X7_hasE (L : Nat) (b : Bool) (h : Hp) (t : Int32) : EvD mi_X7_has [.ref 28, .int t] (G0 L b) h (z_has t (h 28 2)) (h) := by
  refine EvD.of (lo := [some (.ref 28), some (.int t)]) pf_X7_has ok_X7_has rfl rfl ?_
  refine ev_iconst (v := 0) rfl rfl (by decide) ?_
  refine ev_iload_n rfl rfl rfl ?_
  refine ev_icmp_gt rfl rfl (fun c_2 => ?_) (fun c_2 => ?_)
  · refine ev_iconst (v := 0) rfl rfl (by decide) ?_
    exact ev_iret rfl rfl rfl (⟨congrArg (fun z => some (Value.int z)) (by simp only [z_has, if_pos c_2]), rfl, rfl⟩)
  · refine ev_iload_n rfl rfl rfl ?_
    refine ev_aload_n rfl rfl rfl ?_
    refine ev_getI rfl rfl fl_X7_20 rfl rfl rfl ?_
    refine ev_icmp_ge rfl rfl (fun c_10 => ?_) (fun c_10 => ?_)
    · refine ev_iconst (v := 0) rfl rfl (by decide) ?_
      exact ev_iret rfl rfl rfl (⟨congrArg (fun z => some (Value.int z)) (by simp only [z_has, if_neg c_2, if_pos c_10]), rfl, rfl⟩)
    · refine ev_iconst (v := 1) rfl rfl (by decide) ?_
      refine ev_goto rfl rfl ?_
      exact ev_iret rfl rfl rfl (⟨congrArg (fun z => some (Value.int z)) (by simp only [z_has, if_neg c_2, if_neg c_10]), rfl, rfl⟩)

def z_isBeat (h : Hp) (t q f : Int32) : Int32 := if z_has t (h 28 2) = 0 then 0 else if q < f then 0 else if h 36 t.toNatClampNeg ≤ q - f then 0 else 1
theorem z_has_B {t x : Int32} {a b : Int} (hx : B x a b) (h : ¬ z_has t x = 0) : 0 ≤ t.toInt ∧ t.toInt < x.toInt := by
  unfold z_has at h
  by_cases q1 : t < 0
  · rw [if_pos q1] at h; exact absurd rfl h
  · rw [if_neg q1] at h
    by_cases q2 : x ≤ t
    · rw [if_pos q2] at h; exact absurd rfl h
    · have e0 : (0 : Int32).toInt = 0 := by decide
      have := w_nlt q1; have := w_nle q2
      omega
theorem z_has_B5 {h : Hp} (hB : Bx h) {t : Int32} (q : ¬ z_has t (h 28 2) = 0) : B t 0 5 := by
  have p : B (h 28 2) 0 6 := hB 28 2
  have := z_has_B p q
  have := p.2
  exact ⟨by omega, by omega⟩
theorem z_isBeat_B {h : Hp} (hB : Bx h) {t q f : Int32} {F : Int} (pf : B f F F) (hF : 0 ≤ F) (z : ¬ z_isBeat h t q f = 0) : B q F (F + 23) := by
  unfold z_isBeat at z
  by_cases q1 : z_has t (h 28 2) = 0
  · rw [if_pos q1] at z; exact absurd rfl z
  · rw [if_neg q1] at z
    by_cases q2 : q < f
    · rw [if_pos q2] at z; exact absurd rfl z
    · rw [if_neg q2] at z
      by_cases q3 : h 36 t.toNatClampNeg ≤ q - f
      · rw [if_pos q3] at z; exact absurd rfl z
      · have p36 : B (h 36 t.toNatClampNeg) 0 24 := hB 36 _
        have z2 := w_nlt q2
        have z3 := w_nle q3
        have := p36.2; have := pf.1; have := pf.2
        have e := w_sub (x := q) (y := f) (by omega) (by have := (B.any q).2; omega)
        exact ⟨by omega, by omega⟩

set_option maxRecDepth 100000 in
set_option maxHeartbeats 4000000 in
theorem c_isBeatE (L : Nat) (b : Bool) (h : Hp) (hB : Bx h) (t q f : Int32) : EvD mi_X9_isBeat [.ref 1, .int t, .int q, .int f] (G0 L b) h (z_isBeat h t q f) (h) := by
  refine EvD.of (lo := [some (.ref 1), some (.int t), some (.int q), some (.int f)]) pf_X9_isBeat ok_X9_isBeat rfl rfl ?_
  refine ev_aload_n rfl rfl rfl ?_
  refine ev_getR rfl rfl fl_X9_43 rfl rfl rfl rfl ?_
  refine ev_iload_n rfl rfl rfl ?_
  refine ev_V1D rfl rfl lk_X9_195 vt_X7_has rfl rfl rfl rfl rfl (c_X7_hasE _ _ _ _) ?_
  refine ev_if_eq rfl rfl (fun c_8 => ?_) (fun c_8 => ?_)
  · refine ev_iconst (v := 0) rfl rfl (by decide) ?_
    exact ev_iret rfl rfl rfl (⟨congrArg (fun z => some (Value.int z)) (by simp only [z_isBeat, if_pos c_8]), rfl, rfl⟩)
  · refine ev_iload_n rfl rfl rfl ?_
    refine ev_iload_n rfl rfl rfl ?_
    refine ev_icmp_lt rfl rfl (fun c_13 => ?_) (fun c_13 => ?_)
    · refine ev_iconst (v := 0) rfl rfl (by decide) ?_
      exact ev_iret rfl rfl rfl (⟨congrArg (fun z => some (Value.int z)) (by simp only [z_isBeat, if_neg c_8, if_pos c_13]), rfl, rfl⟩)
    · have p5 := z_has_B5 hB c_8
      refine ev_iload_n rfl rfl rfl ?_
      refine ev_iload_n rfl rfl rfl ?_
      refine ev_isub rfl rfl ?_
      refine ev_aload_n rfl rfl rfl ?_
      refine ev_getR rfl rfl fl_X9_43 rfl rfl rfl rfl ?_
      refine ev_getR rfl rfl fl_X9_196 rfl rfl rfl rfl ?_
      refine ev_iload_n rfl rfl rfl ?_
      refine ev_iald rfl rfl rfl (p5.vp (by decide) (by decide)) rfl ?_
      refine ev_icmp_ge rfl rfl (fun c_28 => ?_) (fun c_28 => ?_)
      · refine ev_iconst (v := 0) rfl rfl (by decide) ?_
        exact ev_iret rfl rfl rfl (⟨congrArg (fun z => some (Value.int z)) (by simp only [z_isBeat, if_neg c_8, if_neg c_13, if_pos c_28]), rfl, rfl⟩)
      · refine ev_iconst (v := 1) rfl rfl (by decide) ?_
        refine ev_goto rfl rfl ?_
        exact ev_iret rfl rfl rfl (⟨congrArg (fun z => some (Value.int z)) (by simp only [z_isBeat, if_neg c_8, if_neg c_13, if_neg c_28]), rfl, rfl⟩)

set_option maxRecDepth 100000 in
set_option maxHeartbeats 4000000 in
theorem c_isForE (L : Nat) (b : Bool) (h : Hp) (hs : h 37 15 = 0) (t k d r c : Int32) : EvD mi_X4_isFor [.ref 37, .int t, .int k, .int d, .int r, .int c] (G0 L b) h (0) (h) := by
  refine EvD.of (lo := [some (.ref 37), some (.int t), some (.int k), some (.int d), some (.int r), some (.int c)]) pf_X4_isFor ok_X4_isFor rfl rfl ?_
  refine ev_aload_n rfl rfl rfl ?_
  refine ev_getI rfl rfl fl_X4_58 rfl rfl rfl ?_
  refine ev_if_eq rfl rfl (fun c_4 => ?_) (fun z_ => absurd hs z_)
  refine ev_iconst (v := 0) rfl rfl (by decide) ?_
  exact ev_iret rfl rfl rfl (⟨rfl, rfl, rfl⟩)

theorem c_goesE (L : Nat) (b : Bool) (h : Hp) (hB : Bx h) (t k w : Int32) (pt : B t 0 5) : EvD mi_X7_goes [.ref 28, .int t, .int k, .int w] (G0 L b) h (z_goes (s_or h (30 + t.toNatClampNeg) (h 36 t.toNatClampNeg).toNatClampNeg) k w) h := by
  obtain ⟨n, hn, e1, e2⟩ : ∃ n : Nat, n < 6 ∧ t = nI n ∧ t.toNatClampNeg = n := ⟨t.toNatClampNeg, by have := pt.nat.2; have := pt.2; omega, pt.nat.1, rfl⟩
  have p36 : B (h 36 n) 0 24 := hB 36 n
  have hm : (h 36 n).toNatClampNeg ≤ 24 := by have := p36.nat.2; have := p36.2; omega
  have q := c_goes L b h n hn (h 36 n).toNatClampNeg hm p36.nat.1 k w
  rw [e2]
  rw [e1]
  exact q

