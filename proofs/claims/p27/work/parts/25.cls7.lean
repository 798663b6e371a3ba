def w_in (h : Hp) (m j k : Nat) : Nat → Int32
  | 0 => 0
  | i + 1 => if o_first h m j (nI i) = o_first h m k (nI i) then w_in h m j k i + 1 else w_in h m j k i
def w_run (h : Hp) (m j k : Nat) : Nat → Int32
  | 0 => 0
  | i + 1 => if o_first h m j (nI i) = o_first h m k (nI i) then w_run h m j k i + 1 else 0
def w_fst (h : Hp) (m j k : Nat) : Nat → Int32
  | 0 => -4
  | i + 1 => if o_first h m j (nI i) = o_first h m k (nI i) then (if w_fst h m j k i = -4 then nI i else w_fst h m j k i) else w_fst h m j k i
def w_lst (h : Hp) (m j k : Nat) : Nat → Int32
  | 0 => -4
  | i + 1 => if o_first h m j (nI i) = o_first h m k (nI i) then nI i else w_lst h m j k i
def w_lng (h : Hp) (m j k : Nat) : Nat → Int32
  | 0 => 0
  | i + 1 => if o_first h m j (nI i) = o_first h m k (nI i) then z_max (w_lng h m j k i) (w_run h m j k i + 1) else w_lng h m j k i
/-- walk()'s four numbers -/
def k_w4 (h : Hp) (a f l g : Int32) : Hp := fun i q => if i = 50 then (if q = 7 then a else if q = 8 then f else if q = 9 then l else if q = 10 then g else h i q) else h i q
def k_wk (h : Hp) (m j k i : Nat) : Hp := k_w4 h (w_in h m j k i) (w_fst h m j k i) (w_lst h m j k i) (w_lng h m j k i)
theorem k_w4_ne {h : Hp} {a f l g : Int32} {i q : Nat} (hi : i ≠ 50) : k_w4 h a f l g i q = h i q := if_neg hi
theorem k_w4_lt {h : Hp} {a f l g : Int32} {q : Nat} (hq : q < 7) : k_w4 h a f l g 50 q = h 50 q := by
  unfold k_w4
  rw [if_pos rfl, if_neg (by omega), if_neg (by omega), if_neg (by omega), if_neg (by omega)]
theorem s_way_w4 (h : Hp) (a f l g lo hi : Int32) : ∀ n, s_way (k_w4 h a f l g) lo hi n = s_way h lo hi n
  | 0 => rfl
  | n + 1 => by
    unfold s_way
    rw [k_w4_ne (by decide), k_w4_ne (by decide), s_way_w4 h a f l g lo hi n]
theorem o_first_w4 (h : Hp) (a f l g : Int32) (m n : Nat) (p : Int32) : o_first (k_w4 h a f l g) m n p = o_first h m n p := by
  unfold o_first o_way
  rw [s_way_w4, k_w4_ne (by decide), k_w4_ne (by decide), k_w4_lt (by decide)]
theorem k_w4_7 (h : Hp) (a f l g x : Int32) : ev_set (k_w4 h a f l g) 50 7 x = k_w4 h x f l g := by
  funext i q
  unfold ev_set k_w4
  by_cases e : i = 50
  · subst e
    by_cases e2 : q = 7
    · subst e2; rfl
    · simp [e2]
  · simp [e]
theorem k_w4_8 (h : Hp) (a f l g x : Int32) : ev_set (k_w4 h a f l g) 50 8 x = k_w4 h a x l g := by
  funext i q
  unfold ev_set k_w4
  by_cases e : i = 50
  · subst e
    by_cases e2 : q = 8
    · subst e2; rfl
    · simp [e2]
  · simp [e]
theorem k_w4_9 (h : Hp) (a f l g x : Int32) : ev_set (k_w4 h a f l g) 50 9 x = k_w4 h a f x g := by
  funext i q
  unfold ev_set k_w4
  by_cases e : i = 50
  · subst e
    by_cases e2 : q = 9
    · subst e2; rfl
    · simp [e2]
  · simp [e]
theorem k_w4_10 (h : Hp) (a f l g x : Int32) : ev_set (k_w4 h a f l g) 50 10 x = k_w4 h a f l x := by
  funext i q
  unfold ev_set k_w4
  by_cases e : i = 50
  · subst e
    by_cases e2 : q = 10
    · subst e2; rfl
    · simp [e2]
  · simp [e]
theorem k_w4_of (h : Hp) (a f l g : Int32) : ev_set (ev_set (ev_set (ev_set h 50 7 a) 50 8 f) 50 9 l) 50 10 g = k_w4 h a f l g := by
  funext i q
  unfold ev_set k_w4
  by_cases e : i = 50
  · subst e
    by_cases e2 : q = 7
    · subst e2; rfl
    · by_cases e3 : q = 8
      · subst e3; rfl
      · by_cases e4 : q = 9
        · subst e4; rfl
        · simp [e2, e3, e4]
  · simp [e]

set_option maxRecDepth 100000 in
set_option maxHeartbeats 4000000 in
theorem l_walk (L : Nat) (b : Bool) (h : Hp) (m : Nat) (hm0 : m ≤ 6) (hm : h 50 5 = nI m) (j k : Nat) (hj : j < 4) (hk : k < 4) (N : Nat) (hN : N = 1000)  : ∀ t i : Nat, i + t = N → EvQ mi_X3_walk 27 [some (.ref 50), some (.int (nI j)), some (.int (nI k)), some (.int (w_run h m j k i)), some (.int (nI i))] [] (G0 L b) (k_w4 h (w_in h m j k i) (w_fst h m j k i) (w_lst h m j k i) (w_lng h m j k i)) 0 0 (fun v G' h' => v = none ∧ G' = G0 L b ∧ h' = k_wk h m j k N) := by
  intro t
  induction t with
  | zero =>
    intro i hi
    have hi2 : i = N := by omega
    subst hi2
    refine ev_iload rfl rfl rfl ?_
    refine ev_sipush (v := 999) rfl rfl (by decide) ?_
    refine ev_icmp_gt rfl rfl (fun c_32 => ?_) (fun z_ => absurd (by rw [hN]; decide) z_)
    exact ev_vret rfl rfl trivial (⟨rfl, rfl, rfl⟩)
  | succ t ih =>
    intro i hi
    refine ev_iload rfl rfl rfl ?_
    refine ev_sipush (v := 999) rfl rfl (by decide) ?_
    refine ev_icmp_gt rfl rfl (fun z_ => absurd z_ (show ¬ nI 999 < nI i from fun e_ => absurd ((nI_ltI (by decide) (by omega)).mp e_) (by omega))) (fun c_32 => ?_)
    refine ev_aload_n rfl rfl rfl ?_
    refine ev_iload_n rfl rfl rfl ?_
    refine ev_iload rfl rfl rfl ?_
    refine ev_V2D rfl rfl lk_X3_58 vt_X3_firstHeard rfl rfl rfl rfl rfl (EvD.to (c_firstHeard L b _ m hm0 ((k_w4_lt (by decide)).trans hm) j hj _) (o_first_w4 h _ _ _ _ m j _) rfl) ?_
    refine ev_aload_n rfl rfl rfl ?_
    refine ev_iload_n rfl rfl rfl ?_
    refine ev_iload rfl rfl rfl ?_
    refine ev_V2D rfl rfl lk_X3_58 vt_X3_firstHeard rfl rfl rfl rfl rfl (EvD.to (c_firstHeard L b _ m hm0 ((k_w4_lt (by decide)).trans hm) k hk _) (o_first_w4 h _ _ _ _ m k _) rfl) ?_
    refine ev_icmp_eq rfl rfl (fun c_49 => ?_) (fun c_49 => ?_)
    · refine ev_aload_n rfl rfl rfl ?_
      refine ev_dup rfl rfl rfl ?_
      refine ev_getI rfl rfl fl_X3_34 rfl rfl rfl ?_
      refine ev_iconst (v := 1) rfl rfl (by decide) ?_
      refine ev_iadd rfl rfl ?_
      refine ev_putI rfl rfl fl_X3_34 rfl rfl rfl rfl rfl ?_
      try simp only [k_w4_7, k_w4_8, k_w4_9, k_w4_10]
      refine ev_iinc (y := 1) rfl rfl rfl (by decide) rfl rfl ?_
      dsimp only [List.set]
      refine ev_aload_n rfl rfl rfl ?_
      refine ev_aload_n rfl rfl rfl ?_
      refine ev_getI rfl rfl fl_X3_37 rfl rfl rfl ?_
      refine ev_bipush (v := (-4)) rfl rfl (by decide) ?_
      refine ev_icmp_ne rfl rfl (fun c_77 => ?_) (fun c_77 => ?_)
      · refine ev_aload_n rfl rfl rfl ?_
        refine ev_getI rfl rfl fl_X3_37 rfl rfl rfl ?_
        refine ev_putI rfl rfl fl_X3_37 rfl rfl rfl rfl rfl ?_
        try simp only [k_w4_7, k_w4_8, k_w4_9, k_w4_10]
        refine ev_aload_n rfl rfl rfl ?_
        refine ev_iload rfl rfl rfl ?_
        refine ev_putI rfl rfl fl_X3_40 rfl rfl rfl rfl rfl ?_
        try simp only [k_w4_7, k_w4_8, k_w4_9, k_w4_10]
        refine ev_aload_n rfl rfl rfl ?_
        refine ev_aload_n rfl rfl rfl ?_
        refine ev_getI rfl rfl fl_X3_43 rfl rfl rfl ?_
        refine ev_iload_n rfl rfl rfl ?_
        refine ev_S2D rfl rfl lk_X3_52 st_J9_max_7cf53 rfl rfl (c_max _ _ _ _) ?_
        refine ev_putI rfl rfl fl_X3_43 rfl rfl rfl rfl rfl ?_
        try simp only [k_w4_7, k_w4_8, k_w4_9, k_w4_10]
        refine ev_iinc (y := 1) rfl rfl rfl (by decide) rfl rfl ?_
        dsimp only [List.set]
        refine ev_goto rfl rfl ?_
        have z_ := ih (i + 1) (by omega)
        simp only [k_wk, w_in, w_run, w_fst, w_lst, w_lng, if_neg c_32, if_pos c_49, if_neg c_77] at z_
        rw [nI_1 i]
        exact z_
      · refine ev_iload rfl rfl rfl ?_
        refine ev_goto rfl rfl ?_
        refine ev_putI rfl rfl fl_X3_37 rfl rfl rfl rfl rfl ?_
        try simp only [k_w4_7, k_w4_8, k_w4_9, k_w4_10]
        refine ev_aload_n rfl rfl rfl ?_
        refine ev_iload rfl rfl rfl ?_
        refine ev_putI rfl rfl fl_X3_40 rfl rfl rfl rfl rfl ?_
        try simp only [k_w4_7, k_w4_8, k_w4_9, k_w4_10]
        refine ev_aload_n rfl rfl rfl ?_
        refine ev_aload_n rfl rfl rfl ?_
        refine ev_getI rfl rfl fl_X3_43 rfl rfl rfl ?_
        refine ev_iload_n rfl rfl rfl ?_
        refine ev_S2D rfl rfl lk_X3_52 st_J9_max_7cf53 rfl rfl (c_max _ _ _ _) ?_
        refine ev_putI rfl rfl fl_X3_43 rfl rfl rfl rfl rfl ?_
        try simp only [k_w4_7, k_w4_8, k_w4_9, k_w4_10]
        refine ev_iinc (y := 1) rfl rfl rfl (by decide) rfl rfl ?_
        dsimp only [List.set]
        refine ev_goto rfl rfl ?_
        have z_ := ih (i + 1) (by omega)
        simp only [k_wk, w_in, w_run, w_fst, w_lst, w_lng, if_neg c_32, if_pos c_49, if_pos c_77] at z_
        rw [nI_1 i]
        exact z_
    · refine ev_iconst (v := 0) rfl rfl (by decide) ?_
      refine ev_istore_n rfl rfl rfl rfl ?_
      dsimp only [List.set]
      refine ev_goto rfl rfl ?_
      refine ev_iinc (y := 1) rfl rfl rfl (by decide) rfl rfl ?_
      dsimp only [List.set]
      refine ev_goto rfl rfl ?_
      have z_ := ih (i + 1) (by omega)
      simp only [k_wk, w_in, w_run, w_fst, w_lst, w_lng, if_neg c_32, if_neg c_49] at z_
      rw [nI_1 i]
      exact z_

set_option maxRecDepth 100000 in
set_option maxHeartbeats 4000000 in
theorem c_walk (L : Nat) (b : Bool) (h : Hp) (m : Nat) (hm0 : m ≤ 6) (hm : h 50 5 = nI m) (j k : Nat) (hj : j < 4) (hk : k < 4)  : EvU mi_X3_walk [.ref 50, .int (nI j), .int (nI k)] (G0 L b) h (k_wk h m j k 1000) := by
  refine EvU.of (lo := [some (.ref 50), some (.int (nI j)), some (.int (nI k)), none, none]) pf_X3_walk ok_X3_walk rfl rfl ?_
  refine ev_aload_n rfl rfl rfl ?_
  refine ev_iconst (v := 0) rfl rfl (by decide) ?_
  refine ev_putI rfl rfl fl_X3_34 rfl rfl rfl rfl rfl ?_
  refine ev_aload_n rfl rfl rfl ?_
  refine ev_bipush (v := (-4)) rfl rfl (by decide) ?_
  refine ev_putI rfl rfl fl_X3_37 rfl rfl rfl rfl rfl ?_
  refine ev_aload_n rfl rfl rfl ?_
  refine ev_bipush (v := (-4)) rfl rfl (by decide) ?_
  refine ev_putI rfl rfl fl_X3_40 rfl rfl rfl rfl rfl ?_
  refine ev_aload_n rfl rfl rfl ?_
  refine ev_iconst (v := 0) rfl rfl (by decide) ?_
  refine ev_putI rfl rfl fl_X3_43 rfl rfl rfl rfl rfl ?_
  refine ev_iconst (v := 0) rfl rfl (by decide) ?_
  refine ev_istore_n rfl rfl rfl rfl ?_
  dsimp only [List.set]
  refine ev_iconst (v := 0) rfl rfl (by decide) ?_
  refine ev_istore rfl rfl rfl rfl ?_
  dsimp only [List.set]
  rw [k_w4_of]
  exact l_walk L b h m hm0 hm j k hj hk 1000 rfl 1000 0 (by omega)

def r_step (h : Hp) (m : Nat) (x y q : Int32) : Int32 := if z_has x (h 50 2) = 0 then -1 else if z_has y (h 50 2) = 0 then -1 else if x = y then -1 else if z_wi q 0 3 = 0 then -1 else
  if q = 0 then w_in h m x.toNatClampNeg y.toNatClampNeg 1000 else if q = 1 then w_fst h m x.toNatClampNeg y.toNatClampNeg 1000 else if q = 2 then w_lst h m x.toNatClampNeg y.toNatClampNeg 1000 else w_lng h m x.toNatClampNeg y.toNatClampNeg 1000
def k_step (h : Hp) (m : Nat) (x y q : Int32) : Hp := if z_has x (h 50 2) = 0 then h else if z_has y (h 50 2) = 0 then h else if x = y then h else if z_wi q 0 3 = 0 then h else k_wk h m x.toNatClampNeg y.toNatClampNeg 1000
theorem k_wk_7 (h : Hp) (m j k i : Nat) : k_wk h m j k i 50 7 = w_in h m j k i := rfl
theorem k_wk_8 (h : Hp) (m j k i : Nat) : k_wk h m j k i 50 8 = w_fst h m j k i := rfl
theorem k_wk_9 (h : Hp) (m j k i : Nat) : k_wk h m j k i 50 9 = w_lst h m j k i := rfl
theorem k_wk_10 (h : Hp) (m j k i : Nat) : k_wk h m j k i 50 10 = w_lng h m j k i := rfl

set_option maxRecDepth 100000 in
set_option maxHeartbeats 4000000 in
theorem x_step (L : Nat) (b : Bool) (h : Hp) (mb : Nat) (hb0 : mb ≤ 4) (hb : h 50 2 = nI mb) (m : Nat) (hm0 : m ≤ 6) (hm : h 50 5 = nI m) (x y q : Int32) : EvD mi_X9_step [.ref 1, .int x, .int y, .int q] (G0 L b) h (r_step h m x y q) (k_step h m x y q) := by
  refine EvD.of (lo := [some (.ref 1), some (.int x), some (.int y), some (.int q)]) pf_X9_step ok_X9_step rfl rfl ?_
  refine ev_aload_n rfl rfl rfl ?_
  refine ev_getR rfl rfl fl_X9_64 rfl rfl rfl rfl ?_
  refine ev_iload_n rfl rfl rfl ?_
  refine ev_V1D rfl rfl lk_X9_289 vt_X3_hasBoat rfl rfl rfl rfl rfl (c_X3_hasBoat _ _ _ _) ?_
  refine ev_if_eq rfl rfl (fun c_8 => ?_) (fun c_8 => ?_)
  · refine ev_iconst (v := (-1)) rfl rfl (by decide) ?_
    exact ev_iret rfl rfl rfl (⟨congrArg (fun z => some (Value.int z)) (by simp only [r_step, if_pos c_8]), rfl, by simp only [k_step, if_pos c_8]⟩)
  · refine ev_aload_n rfl rfl rfl ?_
    refine ev_getR rfl rfl fl_X9_64 rfl rfl rfl rfl ?_
    refine ev_iload_n rfl rfl rfl ?_
    refine ev_V1D rfl rfl lk_X9_289 vt_X3_hasBoat rfl rfl rfl rfl rfl (c_X3_hasBoat _ _ _ _) ?_
    refine ev_if_eq rfl rfl (fun c_19 => ?_) (fun c_19 => ?_)
    · refine ev_iconst (v := (-1)) rfl rfl (by decide) ?_
      exact ev_iret rfl rfl rfl (⟨congrArg (fun z => some (Value.int z)) (by simp only [r_step, if_neg c_8, if_pos c_19]), rfl, by simp only [k_step, if_neg c_8, if_pos c_19]⟩)
    · refine ev_iload_n rfl rfl rfl ?_
      refine ev_iload_n rfl rfl rfl ?_
      refine ev_icmp_eq rfl rfl (fun c_24 => ?_) (fun c_24 => ?_)
      · refine ev_iconst (v := (-1)) rfl rfl (by decide) ?_
        exact ev_iret rfl rfl rfl (⟨congrArg (fun z => some (Value.int z)) (by simp only [r_step, if_neg c_8, if_neg c_19, if_pos c_24]), rfl, by simp only [k_step, if_neg c_8, if_neg c_19, if_pos c_24]⟩)
      · refine ev_iload_n rfl rfl rfl ?_
        refine ev_iconst (v := 0) rfl rfl (by decide) ?_
        refine ev_iconst (v := 3) rfl rfl (by decide) ?_
        refine ev_S3D rfl rfl lk_X9_75 st_X9_isWithin rfl rfl (c_isWithin _ _ _ _ _) ?_
        refine ev_if_ne rfl rfl (fun c_33 => ?_) (fun c_33 => ?_)
        · obtain ⟨j, hj, rfl⟩ := z_hask hb hb0 (by decide) c_8
          obtain ⟨k, hk, rfl⟩ := z_hask hb hb0 (by decide) c_19
          have ej := nI_clamp (show j < 2 ^ 31 by omega)
          have ek := nI_clamp (show k < 2 ^ 31 by omega)
          refine ev_aload_n rfl rfl rfl ?_
          refine ev_getR rfl rfl fl_X9_64 rfl rfl rfl rfl ?_
          refine ev_iload_n rfl rfl rfl ?_
          refine ev_iload_n rfl rfl rfl ?_
          refine ev_V2U rfl rfl lk_X9_295 vt_X3_walk rfl rfl rfl rfl rfl (c_walk _ _ _ m hm0 hm j k (by omega) (by omega)) ?_
          refine ev_iload_n rfl rfl rfl ?_
          rcases ev_sw q 0 2 with w_ | ⟨w_, w2_⟩
          · have n0_ : ¬ q = 0 := fun e_ => by rw [e_] at w_; exact absurd w_ (by decide)
            have n1_ : ¬ q = 1 := fun e_ => by rw [e_] at w_; exact absurd w_ (by decide)
            have n2_ : ¬ q = 2 := fun e_ => by rw [e_] at w_; exact absurd w_ (by decide)
            refine ev_tabOut 100 rfl w_ (by decide) ?_
            refine ev_aload_n rfl rfl rfl ?_
            refine ev_getR rfl rfl fl_X9_64 rfl rfl rfl rfl ?_
            refine ev_getI rfl rfl fl_X9_308 rfl rfl rfl ?_
            exact ev_iret rfl rfl rfl (⟨congrArg (fun z => some (Value.int z)) (by simp only [r_step, if_neg c_8, if_neg c_19, if_neg c_24, if_neg c_33, if_neg n0_, if_neg n1_, if_neg n2_, ej, ek, k_wk_7, k_wk_8, k_wk_9, k_wk_10]), rfl, by simp only [k_step, if_neg c_8, if_neg c_19, if_neg c_24, if_neg c_33, if_neg n0_, if_neg n1_, if_neg n2_, ej, ek]⟩)
          · have w3_ : q = 0 ∨ q = 1 ∨ q = 2 := by simp only [← Int32.toInt_inj]; have e_ := w_; have e2_ := w2_; simp only [Int32.reduceToInt] at *; omega
            rcases w3_ with e_ | e_ | e_
            · refine ev_tabIn 76 rfl (by rw [e_]; decide) (by rw [e_]; decide) (by rw [e_]; rfl) (by decide) ?_
              refine ev_aload_n rfl rfl rfl ?_
              refine ev_getR rfl rfl fl_X9_64 rfl rfl rfl rfl ?_
              refine ev_getI rfl rfl fl_X9_299 rfl rfl rfl ?_
              exact ev_iret rfl rfl rfl (⟨congrArg (fun z => some (Value.int z)) (by simp only [r_step, if_neg c_8, if_neg c_19, if_neg c_24, if_neg c_33, if_pos e_, ej, ek, k_wk_7, k_wk_8, k_wk_9, k_wk_10]), rfl, by simp only [k_step, if_neg c_8, if_neg c_19, if_neg c_24, if_neg c_33, if_pos e_, ej, ek]⟩)
            · have n0_ : ¬ q = 0 := by rw [e_]; decide
              refine ev_tabIn 84 rfl (by rw [e_]; decide) (by rw [e_]; decide) (by rw [e_]; rfl) (by decide) ?_
              refine ev_aload_n rfl rfl rfl ?_
              refine ev_getR rfl rfl fl_X9_64 rfl rfl rfl rfl ?_
              refine ev_getI rfl rfl fl_X9_302 rfl rfl rfl ?_
              exact ev_iret rfl rfl rfl (⟨congrArg (fun z => some (Value.int z)) (by simp only [r_step, if_neg c_8, if_neg c_19, if_neg c_24, if_neg c_33, if_neg n0_, if_pos e_, ej, ek, k_wk_7, k_wk_8, k_wk_9, k_wk_10]), rfl, by simp only [k_step, if_neg c_8, if_neg c_19, if_neg c_24, if_neg c_33, if_neg n0_, if_pos e_, ej, ek]⟩)
            · have n0_ : ¬ q = 0 := by rw [e_]; decide
              have n1_ : ¬ q = 1 := by rw [e_]; decide
              refine ev_tabIn 92 rfl (by rw [e_]; decide) (by rw [e_]; decide) (by rw [e_]; rfl) (by decide) ?_
              refine ev_aload_n rfl rfl rfl ?_
              refine ev_getR rfl rfl fl_X9_64 rfl rfl rfl rfl ?_
              refine ev_getI rfl rfl fl_X9_305 rfl rfl rfl ?_
              exact ev_iret rfl rfl rfl (⟨congrArg (fun z => some (Value.int z)) (by simp only [r_step, if_neg c_8, if_neg c_19, if_neg c_24, if_neg c_33, if_neg n0_, if_neg n1_, if_pos e_, ej, ek, k_wk_7, k_wk_8, k_wk_9, k_wk_10]), rfl, by simp only [k_step, if_neg c_8, if_neg c_19, if_neg c_24, if_neg c_33, if_neg n0_, if_neg n1_, if_pos e_, ej, ek]⟩)
        · refine ev_iconst (v := (-1)) rfl rfl (by decide) ?_
          exact ev_iret rfl rfl rfl (⟨congrArg (fun z => some (Value.int z)) (by simp only [r_step, if_neg c_8, if_neg c_19, if_neg c_24, if_pos c_33]), rfl, by simp only [k_step, if_neg c_8, if_neg c_19, if_neg c_24, if_pos c_33]⟩)

def s_holds (h : Hp) (w : Nat) (d : Int32) : Nat → Int32 → Int32
  | 0, a => a
  | p + 1, a => if z_near (o_off h w (nI p)) d = 0 then a else s_holds h w d p (nI p)
theorem nI_nn {p : Nat} (hp : p < 2 ^ 31) : ¬ nI p < 0 := by
  rw [Int32.lt_iff_toInt_lt, nI_toInt hp]
  have e0 : (0 : Int32).toInt = 0 := by decide
  omega

set_option maxRecDepth 100000 in
set_option maxHeartbeats 4000000 in
theorem l_holds (L : Nat) (b : Bool) (h : Hp) (w : Nat) (hw : w < 12) (d : Int32) : ∀ (p : Nat), p < 1000 → ∀ a : Int32, EvQ mi_X9_holds 36 [some (.ref 1), some (.int (nI w)), some (.int d), some (.int a), some (.int (nI p - 1))] [] (G0 L b) h 0 0 (fun v G' h' => v = some (.int (s_holds h w d p a)) ∧ G' = G0 L b ∧ h' = h) := by
  intro p
  induction p with
  | zero =>
    intro _ a
    refine ev_iload rfl rfl rfl ?_
    refine ev_if_lt rfl rfl (fun c_38 => ?_) (fun z_ => absurd (by decide) z_)
    refine ev_iload_n rfl rfl rfl ?_
    exact ev_iret rfl rfl rfl (⟨rfl, rfl, rfl⟩)
  | succ p ih =>
    intro hp a
    have ih := ih (by omega)
    rw [nI_pred]
    refine ev_iload rfl rfl rfl ?_
    refine ev_if_lt rfl rfl (fun z_ => absurd z_ (nI_nn (show p < 2 ^ 31 by omega))) (fun c_38 => ?_)
    refine ev_aload_n rfl rfl rfl ?_
    refine ev_getR rfl rfl fl_X9_22 rfl rfl rfl rfl ?_
    refine ev_iload_n rfl rfl rfl ?_
    refine ev_iload rfl rfl rfl ?_
    refine ev_iload_n rfl rfl rfl ?_
    refine ev_V3D rfl rfl lk_X9_152 vt_X8_isNear rfl rfl rfl rfl rfl (c_isNear L b h w hw _ d) ?_
    refine ev_if_eq rfl rfl (fun c_52 => ?_) (fun c_52 => ?_)
    · refine ev_iload_n rfl rfl rfl ?_
      exact ev_iret rfl rfl rfl (⟨congrArg (fun z => some (Value.int z)) (by simp only [s_holds, if_neg c_38, if_pos c_52]), rfl, rfl⟩)
    · refine ev_iload rfl rfl rfl ?_
      refine ev_istore_n rfl rfl rfl rfl ?_
      dsimp only [List.set]
      refine ev_iinc (y := (-1)) rfl rfl rfl (by decide) rfl rfl ?_
      dsimp only [List.set]
      refine ev_goto rfl rfl ?_
      have z_ := ih (nI p)
      simp only [s_holds, if_neg c_38, if_neg c_52]
      exact z_
