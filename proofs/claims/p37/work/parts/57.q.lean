def s_lk (h : Hp) : Nat → Int32
  | 0 => 0
  | k + 1 => if h 70 k = 0 then s_lk h k + 0 else s_lk h k + 1
def s_mcr (h : Hp) : Nat → Int32
  | 0 => 0
  | k + 1 => if h 69 k = 0 then s_mcr h k + 0 else s_mcr h k + 1
def rmCt (h : Hp) (m : Nat) (q : Int32) : Int32 := if q = 0 then h 63 5 else if q = 1 then h 63 23 else if q = 2 then h 63 45 else if q = 3 then h 63 48 else if q = 4 then s_lk h m else if q = 5 then s_mcr h m else if q = 6 then h 63 13 else if q = 7 then h 63 16 else if q = 8 then (if h 92 0 = -4 then -4 else h 93 0) else -1

set_option maxRecDepth 100000 in
set_option maxHeartbeats 4000000 in
theorem l_mct (L : Nat) (b : Bool) (h : Hp) (m : Nat) (hm0 : m ≤ 12) (hm : h 63 5 = nI m) (q : Int32)  : ∀ t i : Nat, i + t = m → EvQ mi_X10_count 7 [some (.ref 63), some (.int q), some (.int (s_lk h i)), some (.int (s_mcr h i)), some (.int (nI i))] [] (G0 L b) h 0 0 (fun v G' h' => v = some (.int (rmCt h m q)) ∧ G' = G0 L b ∧ h' = h) := by
  intro t
  induction t with
  | zero =>
    intro i hi
    have hi2 : i = m := by omega
    subst hi2
    refine ev_iload rfl rfl rfl ?_
    refine ev_aload_n rfl rfl rfl ?_
    refine ev_getI rfl rfl fl_X10_121 rfl rfl rfl ?_
    refine ev_icmp_ge rfl rfl (fun c_13 => ?_) (fun z_ => absurd (by rw [hm]; exact Int32.le_refl _) z_)
    refine ev_iload_n rfl rfl rfl ?_
    rcases ev_sw q 0 8 with w_ | ⟨w_, w2_⟩
    · have n0_ : ¬ q = 0 := fun e_ => by rw [e_] at w_; exact absurd w_ (by decide)
      have n1_ : ¬ q = 1 := fun e_ => by rw [e_] at w_; exact absurd w_ (by decide)
      have n2_ : ¬ q = 2 := fun e_ => by rw [e_] at w_; exact absurd w_ (by decide)
      have n3_ : ¬ q = 3 := fun e_ => by rw [e_] at w_; exact absurd w_ (by decide)
      have n4_ : ¬ q = 4 := fun e_ => by rw [e_] at w_; exact absurd w_ (by decide)
      have n5_ : ¬ q = 5 := fun e_ => by rw [e_] at w_; exact absurd w_ (by decide)
      have n6_ : ¬ q = 6 := fun e_ => by rw [e_] at w_; exact absurd w_ (by decide)
      have n7_ : ¬ q = 7 := fun e_ => by rw [e_] at w_; exact absurd w_ (by decide)
      have n8_ : ¬ q = 8 := fun e_ => by rw [e_] at w_; exact absurd w_ (by decide)
      refine ev_tabOut 165 rfl w_ (by decide) ?_
      refine ev_iconst (v := (-1)) rfl rfl (by decide) ?_
      exact ev_iret rfl rfl rfl (⟨congrArg (fun z => some (Value.int z)) (by simp only [rmCt, if_pos c_13, if_neg n0_, if_neg n1_, if_neg n2_, if_neg n3_, if_neg n4_, if_neg n5_, if_neg n6_, if_neg n7_, if_neg n8_]), rfl, rfl⟩)
    · have w3_ : q = 0 ∨ q = 1 ∨ q = 2 ∨ q = 3 ∨ q = 4 ∨ q = 5 ∨ q = 6 ∨ q = 7 ∨ q = 8 := by simp only [← Int32.toInt_inj]; have e_ := w_; have e2_ := w2_; simp only [Int32.reduceToInt] at *; omega
      rcases w3_ with e_ | e_ | e_ | e_ | e_ | e_ | e_ | e_ | e_
      · refine ev_tabIn 108 rfl (by rw [e_]; decide) (by rw [e_]; decide) (by rw [e_]; rfl) (by decide) ?_
        refine ev_aload_n rfl rfl rfl ?_
        refine ev_getI rfl rfl fl_X10_121 rfl rfl rfl ?_
        exact ev_iret rfl rfl rfl (⟨congrArg (fun z => some (Value.int z)) (by simp only [rmCt, if_pos c_13, if_pos e_]), rfl, rfl⟩)
      · have n0_ : ¬ q = 0 := by rw [e_]; decide
        refine ev_tabIn 113 rfl (by rw [e_]; decide) (by rw [e_]; decide) (by rw [e_]; rfl) (by decide) ?_
        refine ev_aload_n rfl rfl rfl ?_
        refine ev_getI rfl rfl fl_X10_257 rfl rfl rfl ?_
        exact ev_iret rfl rfl rfl (⟨congrArg (fun z => some (Value.int z)) (by simp only [rmCt, if_pos c_13, if_neg n0_, if_pos e_]), rfl, rfl⟩)
      · have n0_ : ¬ q = 0 := by rw [e_]; decide
        have n1_ : ¬ q = 1 := by rw [e_]; decide
        refine ev_tabIn 118 rfl (by rw [e_]; decide) (by rw [e_]; decide) (by rw [e_]; rfl) (by decide) ?_
        refine ev_aload_n rfl rfl rfl ?_
        refine ev_getI rfl rfl fl_X10_346 rfl rfl rfl ?_
        exact ev_iret rfl rfl rfl (⟨congrArg (fun z => some (Value.int z)) (by simp only [rmCt, if_pos c_13, if_neg n0_, if_neg n1_, if_pos e_]), rfl, rfl⟩)
      · have n0_ : ¬ q = 0 := by rw [e_]; decide
        have n1_ : ¬ q = 1 := by rw [e_]; decide
        have n2_ : ¬ q = 2 := by rw [e_]; decide
        refine ev_tabIn 123 rfl (by rw [e_]; decide) (by rw [e_]; decide) (by rw [e_]; rfl) (by decide) ?_
        refine ev_aload_n rfl rfl rfl ?_
        refine ev_getI rfl rfl fl_X10_349 rfl rfl rfl ?_
        exact ev_iret rfl rfl rfl (⟨congrArg (fun z => some (Value.int z)) (by simp only [rmCt, if_pos c_13, if_neg n0_, if_neg n1_, if_neg n2_, if_pos e_]), rfl, rfl⟩)
      · have n0_ : ¬ q = 0 := by rw [e_]; decide
        have n1_ : ¬ q = 1 := by rw [e_]; decide
        have n2_ : ¬ q = 2 := by rw [e_]; decide
        have n3_ : ¬ q = 3 := by rw [e_]; decide
        refine ev_tabIn 128 rfl (by rw [e_]; decide) (by rw [e_]; decide) (by rw [e_]; rfl) (by decide) ?_
        refine ev_iload_n rfl rfl rfl ?_
        exact ev_iret rfl rfl rfl (⟨congrArg (fun z => some (Value.int z)) (by simp only [rmCt, if_pos c_13, if_neg n0_, if_neg n1_, if_neg n2_, if_neg n3_, if_pos e_]), rfl, rfl⟩)
      · have n0_ : ¬ q = 0 := by rw [e_]; decide
        have n1_ : ¬ q = 1 := by rw [e_]; decide
        have n2_ : ¬ q = 2 := by rw [e_]; decide
        have n3_ : ¬ q = 3 := by rw [e_]; decide
        have n4_ : ¬ q = 4 := by rw [e_]; decide
        refine ev_tabIn 130 rfl (by rw [e_]; decide) (by rw [e_]; decide) (by rw [e_]; rfl) (by decide) ?_
        refine ev_iload_n rfl rfl rfl ?_
        exact ev_iret rfl rfl rfl (⟨congrArg (fun z => some (Value.int z)) (by simp only [rmCt, if_pos c_13, if_neg n0_, if_neg n1_, if_neg n2_, if_neg n3_, if_neg n4_, if_pos e_]), rfl, rfl⟩)
      · have n0_ : ¬ q = 0 := by rw [e_]; decide
        have n1_ : ¬ q = 1 := by rw [e_]; decide
        have n2_ : ¬ q = 2 := by rw [e_]; decide
        have n3_ : ¬ q = 3 := by rw [e_]; decide
        have n4_ : ¬ q = 4 := by rw [e_]; decide
        have n5_ : ¬ q = 5 := by rw [e_]; decide
        refine ev_tabIn 132 rfl (by rw [e_]; decide) (by rw [e_]; decide) (by rw [e_]; rfl) (by decide) ?_
        refine ev_aload_n rfl rfl rfl ?_
        refine ev_getI rfl rfl fl_X10_128 rfl rfl rfl ?_
        exact ev_iret rfl rfl rfl (⟨congrArg (fun z => some (Value.int z)) (by simp only [rmCt, if_pos c_13, if_neg n0_, if_neg n1_, if_neg n2_, if_neg n3_, if_neg n4_, if_neg n5_, if_pos e_]), rfl, rfl⟩)
      · have n0_ : ¬ q = 0 := by rw [e_]; decide
        have n1_ : ¬ q = 1 := by rw [e_]; decide
        have n2_ : ¬ q = 2 := by rw [e_]; decide
        have n3_ : ¬ q = 3 := by rw [e_]; decide
        have n4_ : ¬ q = 4 := by rw [e_]; decide
        have n5_ : ¬ q = 5 := by rw [e_]; decide
        have n6_ : ¬ q = 6 := by rw [e_]; decide
        refine ev_tabIn 137 rfl (by rw [e_]; decide) (by rw [e_]; decide) (by rw [e_]; rfl) (by decide) ?_
        refine ev_aload_n rfl rfl rfl ?_
        refine ev_getI rfl rfl fl_X10_186 rfl rfl rfl ?_
        exact ev_iret rfl rfl rfl (⟨congrArg (fun z => some (Value.int z)) (by simp only [rmCt, if_pos c_13, if_neg n0_, if_neg n1_, if_neg n2_, if_neg n3_, if_neg n4_, if_neg n5_, if_neg n6_, if_pos e_]), rfl, rfl⟩)
      · have n0_ : ¬ q = 0 := by rw [e_]; decide
        have n1_ : ¬ q = 1 := by rw [e_]; decide
        have n2_ : ¬ q = 2 := by rw [e_]; decide
        have n3_ : ¬ q = 3 := by rw [e_]; decide
        have n4_ : ¬ q = 4 := by rw [e_]; decide
        have n5_ : ¬ q = 5 := by rw [e_]; decide
        have n6_ : ¬ q = 6 := by rw [e_]; decide
        have n7_ : ¬ q = 7 := by rw [e_]; decide
        refine ev_tabIn 142 rfl (by rw [e_]; decide) (by rw [e_]; decide) (by rw [e_]; rfl) (by decide) ?_
        refine ev_aload_n rfl rfl rfl ?_
        refine ev_getR rfl rfl fl_X10_112 rfl rfl rfl rfl ?_
        refine ev_iconst (v := 0) rfl rfl (by decide) ?_
        refine ev_iald (j := 0) rfl rfl rfl (by unfold vp_in; decide) (by decide) ?_
        refine ev_bipush (v := (-4)) rfl rfl (by decide) ?_
        refine ev_icmp_ne rfl rfl (fun c_150 => ?_) (fun c_150 => ?_)
        · refine ev_aload_n rfl rfl rfl ?_
          refine ev_getR rfl rfl fl_X10_115 rfl rfl rfl rfl ?_
          refine ev_iconst (v := 0) rfl rfl (by decide) ?_
          refine ev_iald (j := 0) rfl rfl rfl (by unfold vp_in; decide) (by decide) ?_
          exact ev_iret rfl rfl rfl (⟨congrArg (fun z => some (Value.int z)) (by simp only [rmCt, if_pos c_13, if_neg n0_, if_neg n1_, if_neg n2_, if_neg n3_, if_neg n4_, if_neg n5_, if_neg n6_, if_neg n7_, if_pos e_, if_neg c_150]), rfl, rfl⟩)
        · refine ev_bipush (v := (-4)) rfl rfl (by decide) ?_
          refine ev_goto rfl rfl ?_
          exact ev_iret rfl rfl rfl (⟨congrArg (fun z => some (Value.int z)) (by simp only [rmCt, if_pos c_13, if_neg n0_, if_neg n1_, if_neg n2_, if_neg n3_, if_neg n4_, if_neg n5_, if_neg n6_, if_neg n7_, if_pos e_, if_pos c_150]), rfl, rfl⟩)
  | succ t ih =>
    intro i hi
    refine ev_iload rfl rfl rfl ?_
    refine ev_aload_n rfl rfl rfl ?_
    refine ev_getI rfl rfl fl_X10_121 rfl rfl rfl ?_
    refine ev_icmp_ge rfl rfl (fun z_ => absurd z_ (by rw [hm]; exact nI_ge (by omega) (by omega))) (fun c_13 => ?_)
    refine ev_iload_n rfl rfl rfl ?_
    refine ev_aload_n rfl rfl rfl ?_
    refine ev_getR rfl rfl fl_X10_42 rfl rfl rfl rfl ?_
    refine ev_iload rfl rfl rfl ?_
    refine ev_zald rfl rfl rfl (vp_in_nI (by omega) (by decide)) (nI_clamp (by omega)) ?_
    refine ev_if_eq rfl rfl (fun c_24 => ?_) (fun c_24 => ?_)
    · refine ev_iconst (v := 0) rfl rfl (by decide) ?_
      refine ev_iadd rfl rfl ?_
      refine ev_istore_n rfl rfl rfl rfl ?_
      dsimp only [List.set]
      refine ev_iload_n rfl rfl rfl ?_
      refine ev_aload_n rfl rfl rfl ?_
      refine ev_getR rfl rfl fl_X10_39 rfl rfl rfl rfl ?_
      refine ev_iload rfl rfl rfl ?_
      refine ev_iald rfl rfl rfl (vp_in_nI (by omega) (by decide)) (nI_clamp (by omega)) ?_
      refine ev_if_ne rfl rfl (fun c_42 => ?_) (fun c_42 => ?_)
      · refine ev_iconst (v := 1) rfl rfl (by decide) ?_
        refine ev_iadd rfl rfl ?_
        refine ev_istore_n rfl rfl rfl rfl ?_
        dsimp only [List.set]
        refine ev_iinc (y := 1) rfl rfl rfl (by decide) rfl rfl ?_
        dsimp only [List.set]
        refine ev_goto rfl rfl ?_
        have z_ := ih (i + 1) (by omega)
        simp only [s_lk, s_mcr, if_neg c_13, if_pos c_24, if_neg c_42] at z_
        rw [nI_1 i]
        exact z_
      · refine ev_iconst (v := 0) rfl rfl (by decide) ?_
        refine ev_goto rfl rfl ?_
        refine ev_iadd rfl rfl ?_
        refine ev_istore_n rfl rfl rfl rfl ?_
        dsimp only [List.set]
        refine ev_iinc (y := 1) rfl rfl rfl (by decide) rfl rfl ?_
        dsimp only [List.set]
        refine ev_goto rfl rfl ?_
        have z_ := ih (i + 1) (by omega)
        simp only [s_lk, s_mcr, if_neg c_13, if_pos c_24, if_pos c_42] at z_
        rw [nI_1 i]
        exact z_
    · refine ev_iconst (v := 1) rfl rfl (by decide) ?_
      refine ev_goto rfl rfl ?_
      refine ev_iadd rfl rfl ?_
      refine ev_istore_n rfl rfl rfl rfl ?_
      dsimp only [List.set]
      refine ev_iload_n rfl rfl rfl ?_
      refine ev_aload_n rfl rfl rfl ?_
      refine ev_getR rfl rfl fl_X10_39 rfl rfl rfl rfl ?_
      refine ev_iload rfl rfl rfl ?_
      refine ev_iald rfl rfl rfl (vp_in_nI (by omega) (by decide)) (nI_clamp (by omega)) ?_
      refine ev_if_ne rfl rfl (fun c_42 => ?_) (fun c_42 => ?_)
      · refine ev_iconst (v := 1) rfl rfl (by decide) ?_
        refine ev_iadd rfl rfl ?_
        refine ev_istore_n rfl rfl rfl rfl ?_
        dsimp only [List.set]
        refine ev_iinc (y := 1) rfl rfl rfl (by decide) rfl rfl ?_
        dsimp only [List.set]
        refine ev_goto rfl rfl ?_
        have z_ := ih (i + 1) (by omega)
        simp only [s_lk, s_mcr, if_neg c_13, if_neg c_24, if_neg c_42] at z_
        rw [nI_1 i]
        exact z_
      · refine ev_iconst (v := 0) rfl rfl (by decide) ?_
        refine ev_goto rfl rfl ?_
        refine ev_iadd rfl rfl ?_
        refine ev_istore_n rfl rfl rfl rfl ?_
        dsimp only [List.set]
        refine ev_iinc (y := 1) rfl rfl rfl (by decide) rfl rfl ?_
        dsimp only [List.set]
        refine ev_goto rfl rfl ?_
        have z_ := ih (i + 1) (by omega)
        simp only [s_lk, s_mcr, if_neg c_13, if_neg c_24, if_pos c_42] at z_
        rw [nI_1 i]
        exact z_

set_option maxRecDepth 100000 in
set_option maxHeartbeats 4000000 in
theorem m_xcount (L : Nat) (b : Bool) (h : Hp) (hB : Bx h) (q : Int32) : EvD mi_X10_count [.ref 63, .int q] (G0 L b) h (rmCt h (h 63 5).toNatClampNeg q) (h) := by
  refine EvD.of (lo := [some (.ref 63), some (.int q), none, none, none]) pf_X10_count ok_X10_count rfl rfl ?_
  refine ev_iconst (v := 0) rfl rfl (by decide) ?_
  refine ev_istore_n rfl rfl rfl rfl ?_
  dsimp only [List.set]
  refine ev_iconst (v := 0) rfl rfl (by decide) ?_
  refine ev_istore_n rfl rfl rfl rfl ?_
  dsimp only [List.set]
  refine ev_iconst (v := 0) rfl rfl (by decide) ?_
  refine ev_istore rfl rfl rfl rfl ?_
  dsimp only [List.set]
  exact l_mct L b h _ (B.nI (u := 12) (hB 63 5)).2 (B.nI (u := 12) (hB 63 5)).1 q (h 63 5).toNatClampNeg 0 (by omega)

theorem bits_lk {h : Hp} : ∀ m, (∀ w, w < m → RW1 h w) → s_bits (h 4 6) m = s_lk h m
  | 0, _ => rfl
  | m + 1, hW => by
    have ih := bits_lk m (fun w hw => hW w (by omega))
    obtain ⟨-, -, -, -, -, -, z7, -⟩ := hW m (by omega)
    show s_bits (h 4 6) m + (h 4 6 >>> (nI m &&& 31) &&& 1) = if h 70 m = 0 then s_lk h m + 0 else s_lk h m + 1
    rw [ih]
    rcases bit_01 (h 4 6) (nI m &&& 31) with y | y
    · rw [if_pos (by rw [← z7]; exact y), y]
    · rw [if_neg (by rw [← z7, y]; decide), y]
theorem bits_up {x : Int32} {m : Nat} : ∀ k, (∀ w, m ≤ w → w < m + k → x >>> (nI w &&& 31) &&& 1 = 0) → s_bits x (m + k) = s_bits x m
  | 0, _ => rfl
  | k + 1, e => by
    have ih := bits_up (x := x) (m := m) k (fun w h1 h2 => e w h1 (by omega))
    show s_bits x (m + k) + (x >>> (nI (m + k) &&& 31) &&& 1) = _
    rw [ih, e (m + k) (by omega) (by omega), Int32.add_zero]
theorem crk_eq {h : Hp} : ∀ m, (∀ w, w < m → RW1 h w) → s_crk h m = s_mcr h m
  | 0, _ => rfl
  | m + 1, hW => by
    have ih := crk_eq m (fun w hw => hW w (by omega))
    obtain ⟨-, -, -, -, -, z6, -, -⟩ := hW m (by omega)
    show s_crk h m + (if h 10 m = 0 then 0 else 1) = if h 69 m = 0 then s_mcr h m + 0 else s_mcr h m + 1
    rw [ih, z6]
    by_cases c : h 69 m = 0
    · rw [if_pos c, if_pos c]
    · rw [if_neg c, if_neg c]
theorem ct_eq {h : Hp} (hB : Bx h) (hE : RE h) (hT : RTU h) (hS : RSh h) (hL : RLk h) (e2 : h 50 2 = h 63 45) (e5 : h 50 5 = h 63 48) (q : Int32) : r_count h (nW h) q = rmCt h (h 63 5).toNatClampNeg q := by
  obtain ⟨-, hW, ⟨ha, -⟩, -⟩ := hE
  have l12 : nW h ≤ 12 := (B.nI (u := 12) (hB 4 7)).2
  have en5 : (h 63 5).toNatClampNeg = nW h := by unfold nW; rw [hW.1]
  have eb : z_bc (h 4 6) = s_lk h (nW h) := by
    rw [(tf_of hL.1.2).2.2, ← bits_lk (nW h) hW.2.1]
    have z := bits_up (x := h 4 6) (m := nW h) (12 - nW h) (fun w h1 h2 => (hW.2.2 w h1 (by omega)).2.2)
    rw [show nW h + (12 - nW h) = 12 by omega] at z
    exact z
  unfold r_count rmCt
  rw [en5, hW.1, hT.2.2.1, e2, e5, eb, crk_eq _ hW.2.1, ha, hT.1]
  have e8 : (if z_noth (h 62 0) = 0 then h 62 0 else -4) = if h 92 0 = -4 then -4 else h 93 0 := by
    obtain ⟨a1, a2, -⟩ := hS 0 (by decide)
    unfold z_noth
    by_cases c : h 62 0 = -1
    · rw [if_pos c, if_neg (by decide), if_pos (a1.mp c)]
    · rw [if_neg c, if_pos rfl, if_neg (fun z => c (a1.mpr z))]
      exact (a2 c).1
  rw [e8]

