def s_snd (h : Hp) (c : Nat) : Nat → Int32
  | 0 => 0
  | i + 1 => s_snd h c i + z_bc (h c i)

set_option maxRecDepth 100000 in
set_option maxHeartbeats 4000000 in
theorem l_snd (L : Nat) (b : Bool) (h : Hp) (n : Nat) (hn : n < 6) (m : Nat) (hm0 : m ≤ 24) (hm : h 36 n = nI m)  : ∀ t i : Nat, i + t = m → EvQ mi_X7_sounding 4 [some (.ref 28), some (.int (nI n)), some (.int (s_snd h (30 + n) i)), some (.int (nI i))] [] (G0 L b) h 0 0 (fun v G' h' => v = some (.int (s_snd h (30 + n) m)) ∧ G' = G0 L b ∧ h' = h) := by
  intro t
  induction t with
  | zero =>
    intro i hi
    have hi2 : i = m := by omega
    subst hi2
    refine ev_iload_n rfl rfl rfl ?_
    refine ev_aload_n rfl rfl rfl ?_
    refine ev_getR rfl rfl fl_X7_16 rfl rfl rfl rfl ?_
    refine ev_iload_n rfl rfl rfl ?_
    refine ev_iald rfl rfl rfl (vp_in_nI (by omega) (by decide)) (nI_clamp (by omega)) ?_
    refine ev_icmp_ge rfl rfl (fun c_11 => ?_) (fun z_ => absurd (by rw [hm]; exact Int32.le_refl _) z_)
    refine ev_iload_n rfl rfl rfl ?_
    exact ev_iret rfl rfl rfl (⟨rfl, rfl, rfl⟩)
  | succ t ih =>
    intro i hi
    refine ev_iload_n rfl rfl rfl ?_
    refine ev_aload_n rfl rfl rfl ?_
    refine ev_getR rfl rfl fl_X7_16 rfl rfl rfl rfl ?_
    refine ev_iload_n rfl rfl rfl ?_
    refine ev_iald rfl rfl rfl (vp_in_nI (by omega) (by decide)) (nI_clamp (by omega)) ?_
    refine ev_icmp_ge rfl rfl (fun z_ => absurd z_ (by rw [hm]; exact nI_ge (by omega) (by omega))) (fun c_11 => ?_)
    refine ev_iload_n rfl rfl rfl ?_
    refine ev_aload_n rfl rfl rfl ?_
    refine ev_getR rfl rfl fl_X7_11 rfl rfl rfl rfl ?_
    refine ev_iload_n rfl rfl rfl ?_
    refine ev_aald (y := 30 + n) (j := n) rfl rfl rfl rfl (vp_in_nI (by omega) (by decide)) (nI_clamp (by omega)) (g_tun L b hn).1 ?_
    refine ev_iload_n rfl rfl rfl ?_
    refine ev_iald rfl rfl (g_tun L b hn).2 (vp_in_nI (by omega) (by decide)) (nI_clamp (by omega)) ?_
    refine ev_S1D rfl rfl lk_X7_30 st_J6_bitCount_0f7a4 rfl rfl (c_bitCount _ _ _) ?_
    refine ev_iadd rfl rfl ?_
    refine ev_istore_n rfl rfl rfl rfl ?_
    dsimp only [List.set]
    refine ev_iinc (y := 1) rfl rfl rfl (by decide) rfl rfl ?_
    dsimp only [List.set]
    refine ev_goto rfl rfl ?_
    have z_ := ih (i + 1) (by omega)
    simp only [s_snd] at z_
    rw [nI_1 i]
    exact z_

set_option maxRecDepth 100000 in
set_option maxHeartbeats 4000000 in
theorem c_sounding (L : Nat) (b : Bool) (h : Hp) (n : Nat) (hn : n < 6) (m : Nat) (hm0 : m ≤ 24) (hm : h 36 n = nI m)  : EvD mi_X7_sounding [.ref 28, .int (nI n)] (G0 L b) h (s_snd h (30 + n) m) (h) := by
  refine EvD.of (lo := [some (.ref 28), some (.int (nI n)), none, none]) pf_X7_sounding ok_X7_sounding rfl rfl ?_
  refine ev_iconst (v := 0) rfl rfl (by decide) ?_
  refine ev_istore_n rfl rfl rfl rfl ?_
  dsimp only [List.set]
  refine ev_iconst (v := 0) rfl rfl (by decide) ?_
  refine ev_istore_n rfl rfl rfl rfl ?_
  dsimp only [List.set]
  exact l_snd L b h n hn m hm0 hm m 0 (by omega)

def r_tof (h : Hp) (t q : Int32) : Int32 := if z_has t (h 28 2) = 0 then -1 else if q = 0 then h 36 t.toNatClampNeg else if q = 1 then s_snd h (30 + t.toNatClampNeg) (h 36 t.toNatClampNeg).toNatClampNeg else if q = 2 then z_ls (s_or h (30 + t.toNatClampNeg) (h 36 t.toNatClampNeg).toNatClampNeg) else if q = 3 then z_gr (s_or h (30 + t.toNatClampNeg) (h 36 t.toNatClampNeg).toNatClampNeg) else if z_isBeat h t q 10 = 0 then -1 else h (30 + t.toNatClampNeg) (q - 10).toNatClampNeg

set_option maxRecDepth 100000 in
set_option maxHeartbeats 4000000 in
theorem x_tof (L : Nat) (b : Bool) (h : Hp) (hB : Bx h) (t q : Int32) : EvD mi_X9_tuneOf [.ref 1, .int t, .int q] (G0 L b) h (r_tof h t q) (h) := by
  refine EvD.of (lo := [some (.ref 1), some (.int t), some (.int q)]) pf_X9_tuneOf ok_X9_tuneOf rfl rfl ?_
  refine ev_aload_n rfl rfl rfl ?_
  refine ev_getR rfl rfl fl_X9_43 rfl rfl rfl rfl ?_
  refine ev_iload_n rfl rfl rfl ?_
  refine ev_V1D rfl rfl lk_X9_195 vt_X7_has rfl rfl rfl rfl rfl (c_X7_hasE L b h _) ?_
  refine ev_if_ne rfl rfl (fun c_8 => ?_) (fun c_8 => ?_)
  · have pt : B t 0 5 := z_has_B5 hB c_8
    obtain ⟨n, hn, rfl, en⟩ := B.nat6 pt
    refine ev_iload_n rfl rfl rfl ?_
    rcases ev_sw q 0 3 with w_ | ⟨w_, w2_⟩
    · have n0_ : ¬ q = 0 := fun e_ => by rw [e_] at w_; exact absurd w_ (by decide)
      have n1_ : ¬ q = 1 := fun e_ => by rw [e_] at w_; exact absurd w_ (by decide)
      have n2_ : ¬ q = 2 := fun e_ => by rw [e_] at w_; exact absurd w_ (by decide)
      have n3_ : ¬ q = 3 := fun e_ => by rw [e_] at w_; exact absurd w_ (by decide)
      refine ev_tabOut 87 rfl w_ (by decide) ?_
      refine ev_aload_n rfl rfl rfl ?_
      refine ev_iload_n rfl rfl rfl ?_
      refine ev_iload_n rfl rfl rfl ?_
      refine ev_bipush (v := 10) rfl rfl (by decide) ?_
      refine ev_V3D rfl rfl lk_X9_210 vt_X9_isBeat rfl rfl rfl rfl rfl (c_isBeatE L b h hB _ _ _) ?_
      refine ev_if_eq rfl rfl (fun c_95 => ?_) (fun c_95 => ?_)
      · refine ev_iconst (v := (-1)) rfl rfl (by decide) ?_
        exact ev_iret rfl rfl rfl (⟨congrArg (fun z => some (Value.int z)) (by simp only [r_tof, if_neg c_8, if_neg n0_, if_neg n1_, if_neg n2_, if_neg n3_, if_pos c_95, en]), rfl, rfl⟩)
      · have pq : B q 10 33 := z_isBeat_B hB (by decide : B 10 10 10) (by decide) c_95
        have pq2 := (B.sub pq (by decide : B 10 10 10) (by decide) (by decide)).1
        refine ev_aload_n rfl rfl rfl ?_
        refine ev_getR rfl rfl fl_X9_43 rfl rfl rfl rfl ?_
        refine ev_getR rfl rfl fl_X9_213 rfl rfl rfl rfl ?_
        refine ev_iload_n rfl rfl rfl ?_
        refine ev_aald (y := 30 + n) (j := n) rfl rfl rfl rfl (vp_in_nI (by omega) (by decide)) (nI_clamp (by omega)) (g_tun L b hn).1 ?_
        refine ev_iload_n rfl rfl rfl ?_
        refine ev_bipush (v := 10) rfl rfl (by decide) ?_
        refine ev_isub rfl rfl ?_
        refine ev_iald rfl rfl (g_tun L b hn).2 (pq2.vp (by decide) (by decide)) rfl ?_
        refine ev_goto rfl rfl ?_
        exact ev_iret rfl rfl rfl (⟨congrArg (fun z => some (Value.int z)) (by simp only [r_tof, if_neg c_8, if_neg n0_, if_neg n1_, if_neg n2_, if_neg n3_, if_neg c_95, en]), rfl, rfl⟩)
    · have w3_ : q = 0 ∨ q = 1 ∨ q = 2 ∨ q = 3 := by simp only [← Int32.toInt_inj]; have e_ := w_; have e2_ := w2_; simp only [Int32.reduceToInt] at *; omega
      rcases w3_ with e_ | e_ | e_ | e_
      · refine ev_tabIn 44 rfl (by rw [e_]; decide) (by rw [e_]; decide) (by rw [e_]; rfl) (by decide) ?_
        refine ev_aload_n rfl rfl rfl ?_
        refine ev_getR rfl rfl fl_X9_43 rfl rfl rfl rfl ?_
        refine ev_getR rfl rfl fl_X9_196 rfl rfl rfl rfl ?_
        refine ev_iload_n rfl rfl rfl ?_
        refine ev_iald rfl rfl rfl (vp_in_nI (by omega) (by decide)) (nI_clamp (by omega)) ?_
        exact ev_iret rfl rfl rfl (⟨congrArg (fun z => some (Value.int z)) (by simp only [r_tof, if_neg c_8, if_pos e_, en]), rfl, rfl⟩)
      · have n0_ : ¬ q = 0 := by rw [e_]; decide
        refine ev_tabIn 54 rfl (by rw [e_]; decide) (by rw [e_]; decide) (by rw [e_]; rfl) (by decide) ?_
        refine ev_aload_n rfl rfl rfl ?_
        refine ev_getR rfl rfl fl_X9_43 rfl rfl rfl rfl ?_
        refine ev_iload_n rfl rfl rfl ?_
        refine ev_V1D rfl rfl lk_X9_198 vt_X7_sounding rfl rfl rfl rfl rfl (c_sounding L b h n hn _ (B.nI (u := 24) (hB 36 n)).2 (B.nI (u := 24) (hB 36 n)).1) ?_
        exact ev_iret rfl rfl rfl (⟨congrArg (fun z => some (Value.int z)) (by simp only [r_tof, if_neg c_8, if_neg n0_, if_pos e_, en]), rfl, rfl⟩)
      · have n0_ : ¬ q = 0 := by rw [e_]; decide
        have n1_ : ¬ q = 1 := by rw [e_]; decide
        refine ev_tabIn 63 rfl (by rw [e_]; decide) (by rw [e_]; decide) (by rw [e_]; rfl) (by decide) ?_
        refine ev_aload_n rfl rfl rfl ?_
        refine ev_getR rfl rfl fl_X9_43 rfl rfl rfl rfl ?_
        refine ev_iload_n rfl rfl rfl ?_
        refine ev_V1D rfl rfl lk_X9_201 vt_X7_whistlesOf rfl rfl rfl rfl rfl (c_whistlesOf L b h n hn _ (B.nI (u := 24) (hB 36 n)).2 (B.nI (u := 24) (hB 36 n)).1) ?_
        refine ev_S1D rfl rfl lk_X9_204 st_X9_leastOf rfl rfl (c_leastOf _ _ _) ?_
        exact ev_iret rfl rfl rfl (⟨congrArg (fun z => some (Value.int z)) (by simp only [r_tof, if_neg c_8, if_neg n0_, if_neg n1_, if_pos e_, en]), rfl, rfl⟩)
      · have n0_ : ¬ q = 0 := by rw [e_]; decide
        have n1_ : ¬ q = 1 := by rw [e_]; decide
        have n2_ : ¬ q = 2 := by rw [e_]; decide
        refine ev_tabIn 75 rfl (by rw [e_]; decide) (by rw [e_]; decide) (by rw [e_]; rfl) (by decide) ?_
        refine ev_aload_n rfl rfl rfl ?_
        refine ev_getR rfl rfl fl_X9_43 rfl rfl rfl rfl ?_
        refine ev_iload_n rfl rfl rfl ?_
        refine ev_V1D rfl rfl lk_X9_201 vt_X7_whistlesOf rfl rfl rfl rfl rfl (c_whistlesOf L b h n hn _ (B.nI (u := 24) (hB 36 n)).2 (B.nI (u := 24) (hB 36 n)).1) ?_
        refine ev_S1D rfl rfl lk_X9_207 st_X9_greatestOf rfl rfl (c_greatestOf _ _ _) ?_
        exact ev_iret rfl rfl rfl (⟨congrArg (fun z => some (Value.int z)) (by simp only [r_tof, if_neg c_8, if_neg n0_, if_neg n1_, if_neg n2_, if_pos e_, en]), rfl, rfl⟩)
  · refine ev_iconst (v := (-1)) rfl rfl (by decide) ?_
    exact ev_iret rfl rfl rfl (⟨congrArg (fun z => some (Value.int z)) (by simp only [r_tof, if_pos c_8]), rfl, rfl⟩)

def s_msnd (h : Hp) (n : Nat) : Nat → Int32
  | 0 => 0
  | i + 1 => s_msnd h n i + s_bits (h 74 (24 * n + i)) 12
def v_ls (a : Int32) : Nat → Int32
  | 0 => -4
  | k + 1 => if a >>> (nI k &&& 31) &&& 1 = 1 then (if v_ls a k = -4 then nI k else v_ls a k) else v_ls a k
def v_gr (a : Int32) : Nat → Int32
  | 0 => -4
  | k + 1 => if a >>> (nI k &&& 31) &&& 1 = 1 then nI k else v_gr a k
def rm_tof (h : Hp) (n m : Nat) (q : Int32) : Int32 := if q = 0 then h 73 n else if q = 1 then s_msnd h n m else if q = 2 then v_ls (s_mor h n m) 12 else if q = 3 then v_gr (s_mor h n m) 12 else h 74 (24 * n + (q - 10).toNatClampNeg)

theorem z_q10 {q : Int32} (hq : B q 0 3 ∨ B q 10 33) (c0 : ¬ q = 0) (c1 : ¬ q = 1) (c2 : ¬ q = 2) (c3 : ¬ q = 3) : q - 10 = nI (q - 10).toNatClampNeg ∧ (q - 10).toNatClampNeg < 24 := by
  have p : B q 10 33 := by
    rcases hq with p | p
    · exfalso
      have p1 : B q 1 3 := R_neL p (by decide : B 0 0 0) c0 (by decide)
      have p2 : B q 2 3 := R_neL p1 (by decide : B 1 1 1) c1 (by decide)
      have p3 : B q 3 3 := R_neL p2 (by decide : B 2 2 2) c2 (by decide)
      exact c3 (D_eq p3 (by decide))
    · exact p
  have p2 := (B.sub p (by decide : B 10 10 10) (by decide) (by decide)).1
  have p3 : B (q - 10) 0 ((23 : Nat) : Int) := p2
  exact ⟨(B.nI p3).1, by have := (B.nI p3).2; omega⟩

set_option maxRecDepth 100000 in
set_option maxHeartbeats 4000000 in
theorem l_mtof2 (L : Nat) (b : Bool) (h : Hp) (n : Nat) (hn : n < 6) (m : Nat) (hm0 : m ≤ 24) (hm : h 73 n = nI m) (q : Int32) (hq : B q 0 3 ∨ B q 10 33) (S : Int32) (hS : S = s_msnd h n m) (N : Nat) (hN : N = 12)  : ∀ t i : Nat, i + t = N → EvQ mi_X10_tuneOf 89 [some (.ref 63), some (.int (nI n)), some (.int q), some (.int S), some (.int (v_ls (s_mor h n m) i)), some (.int (v_gr (s_mor h n m) i)), some (.int (nI i))] [] (G0 L b) h 0 0 (fun v G' h' => v = some (.int (rm_tof h n m q)) ∧ G' = G0 L b ∧ h' = h) := by
  intro t
  induction t with
  | zero =>
    intro i hi
    have hi2 : i = N := by omega
    subst hi2
    refine ev_iload rfl rfl rfl ?_
    refine ev_bipush (v := 12) rfl rfl (by decide) ?_
    refine ev_icmp_ge rfl rfl (fun c_93 => ?_) (fun z_ => absurd (by rw [hN]; decide) z_)
    refine ev_iload_n rfl rfl rfl ?_
    refine ev_if_ne rfl rfl (fun c_137 => ?_) (fun c_137 => ?_)
    · refine ev_iload_n rfl rfl rfl ?_
      refine ev_iconst (v := 1) rfl rfl (by decide) ?_
      refine ev_icmp_ne rfl rfl (fun c_151 => ?_) (fun c_151 => ?_)
      · refine ev_iload_n rfl rfl rfl ?_
        refine ev_iconst (v := 2) rfl rfl (by decide) ?_
        refine ev_icmp_ne rfl rfl (fun c_160 => ?_) (fun c_160 => ?_)
        · refine ev_iload_n rfl rfl rfl ?_
          refine ev_iconst (v := 3) rfl rfl (by decide) ?_
          refine ev_icmp_ne rfl rfl (fun c_170 => ?_) (fun c_170 => ?_)
          · refine ev_aload_n rfl rfl rfl ?_
            refine ev_iload_n rfl rfl rfl ?_
            refine ev_iload_n rfl rfl rfl ?_
            refine ev_bipush (v := 10) rfl rfl (by decide) ?_
            refine ev_isub rfl rfl ?_
            rw [show q - 10 = nI (q - 10).toNatClampNeg from (z_q10 hq c_137 c_151 c_160 c_170).1]
            refine ev_V2D rfl rfl lk_X10_263 vt_X10_chordAt rfl rfl rfl rfl rfl (EvD.to (c_mchordAt L b h n hn (q - 10).toNatClampNeg (z_q10 hq c_137 c_151 c_160 c_170).2) rfl rfl) ?_
            exact ev_iret rfl rfl rfl (⟨congrArg (fun z => some (Value.int z)) (by first | (simp only [rm_tof, if_pos c_93, if_neg c_137, if_neg c_151, if_neg c_160, if_neg c_170, hN, hS]; done) | (subst hN; simp only [rm_tof, if_pos c_93, if_neg c_137, if_neg c_151, if_neg c_160, if_neg c_170, hS]; done) | (simp only [rm_tof, if_pos c_93, if_neg c_137, if_neg c_151, if_neg c_160, if_neg c_170, hS]; rw [hN])), rfl, rfl⟩)
          · refine ev_iload rfl rfl rfl ?_
            refine ev_goto rfl rfl ?_
            exact ev_iret rfl rfl rfl (⟨congrArg (fun z => some (Value.int z)) (by first | (simp only [rm_tof, if_pos c_93, if_neg c_137, if_neg c_151, if_neg c_160, if_pos c_170, hN, hS]; done) | (subst hN; simp only [rm_tof, if_pos c_93, if_neg c_137, if_neg c_151, if_neg c_160, if_pos c_170, hS]; done) | (simp only [rm_tof, if_pos c_93, if_neg c_137, if_neg c_151, if_neg c_160, if_pos c_170, hS]; rw [hN])), rfl, rfl⟩)
        · refine ev_iload rfl rfl rfl ?_
          refine ev_goto rfl rfl ?_
          exact ev_iret rfl rfl rfl (⟨congrArg (fun z => some (Value.int z)) (by first | (simp only [rm_tof, if_pos c_93, if_neg c_137, if_neg c_151, if_pos c_160, hN, hS]; done) | (subst hN; simp only [rm_tof, if_pos c_93, if_neg c_137, if_neg c_151, if_pos c_160, hS]; done) | (simp only [rm_tof, if_pos c_93, if_neg c_137, if_neg c_151, if_pos c_160, hS]; rw [hN])), rfl, rfl⟩)
      · refine ev_iload_n rfl rfl rfl ?_
        refine ev_goto rfl rfl ?_
        exact ev_iret rfl rfl rfl (⟨congrArg (fun z => some (Value.int z)) (by first | (simp only [rm_tof, if_pos c_93, if_neg c_137, if_pos c_151, hN, hS]; done) | (subst hN; simp only [rm_tof, if_pos c_93, if_neg c_137, if_pos c_151, hS]; done) | (simp only [rm_tof, if_pos c_93, if_neg c_137, if_pos c_151, hS]; rw [hN])), rfl, rfl⟩)
    · refine ev_aload_n rfl rfl rfl ?_
      refine ev_getR rfl rfl fl_X10_51 rfl rfl rfl rfl ?_
      refine ev_iload_n rfl rfl rfl ?_
      refine ev_iald rfl rfl rfl (vp_in_nI (by omega) (by decide)) (nI_clamp (by omega)) ?_
      refine ev_goto rfl rfl ?_
      exact ev_iret rfl rfl rfl (⟨congrArg (fun z => some (Value.int z)) (by first | (simp only [rm_tof, if_pos c_93, if_pos c_137, hN, hS]; done) | (subst hN; simp only [rm_tof, if_pos c_93, if_pos c_137, hS]; done) | (simp only [rm_tof, if_pos c_93, if_pos c_137, hS]; rw [hN])), rfl, rfl⟩)
  | succ t ih =>
    intro i hi
    refine ev_iload rfl rfl rfl ?_
    refine ev_bipush (v := 12) rfl rfl (by decide) ?_
    refine ev_icmp_ge rfl rfl (fun z_ => absurd z_ (show ¬ nI 12 ≤ nI i from nI_ge (by omega) (by omega))) (fun c_93 => ?_)
    refine ev_aload_n rfl rfl rfl ?_
    refine ev_iload_n rfl rfl rfl ?_
    refine ev_V1D rfl rfl lk_X10_273 vt_X10_allOf rfl rfl rfl rfl rfl (c_mallOf L b h n hn m hm0 hm) ?_
    refine ev_iload rfl rfl rfl ?_
    refine ev_ishr rfl rfl ?_
    refine ev_iconst (v := 1) rfl rfl (by decide) ?_
    refine ev_iand rfl rfl ?_
    refine ev_iconst (v := 1) rfl rfl (by decide) ?_
    refine ev_icmp_ne rfl rfl (fun c_107 => ?_) (fun c_107 => ?_)
    · refine ev_iinc (y := 1) rfl rfl rfl (by decide) rfl rfl ?_
      dsimp only [List.set]
      refine ev_goto rfl rfl ?_
      have z_ := ih (i + 1) (by omega)
      simp only [v_ls, v_gr, if_neg c_93, if_neg c_107] at z_
      rw [nI_1 i]
      exact z_
    · refine ev_iload rfl rfl rfl ?_
      refine ev_bipush (v := (-4)) rfl rfl (by decide) ?_
      refine ev_icmp_ne rfl rfl (fun c_114 => ?_) (fun c_114 => ?_)
      · refine ev_iload rfl rfl rfl ?_
        refine ev_istore rfl rfl rfl rfl ?_
        dsimp only [List.set]
        refine ev_iload rfl rfl rfl ?_
        refine ev_istore rfl rfl rfl rfl ?_
        dsimp only [List.set]
        refine ev_iinc (y := 1) rfl rfl rfl (by decide) rfl rfl ?_
        dsimp only [List.set]
        refine ev_goto rfl rfl ?_
        have z_ := ih (i + 1) (by omega)
        simp only [v_ls, v_gr, if_neg c_93, if_pos c_107, if_neg c_114] at z_
        rw [nI_1 i]
        exact z_
      · refine ev_iload rfl rfl rfl ?_
        refine ev_goto rfl rfl ?_
        refine ev_istore rfl rfl rfl rfl ?_
        dsimp only [List.set]
        refine ev_iload rfl rfl rfl ?_
        refine ev_istore rfl rfl rfl rfl ?_
        dsimp only [List.set]
        refine ev_iinc (y := 1) rfl rfl rfl (by decide) rfl rfl ?_
        dsimp only [List.set]
        refine ev_goto rfl rfl ?_
        have z_ := ih (i + 1) (by omega)
        simp only [v_ls, v_gr, if_neg c_93, if_pos c_107, if_pos c_114] at z_
        rw [nI_1 i]
        exact z_

set_option maxRecDepth 100000 in
set_option maxHeartbeats 4000000 in
theorem l_mtof1 (L : Nat) (b : Bool) (h : Hp) (n : Nat) (hn : n < 6) (m : Nat) (hm0 : m ≤ 24) (hm : h 73 n = nI m) (q : Int32) (hq : B q 0 3 ∨ B q 10 33)  : ∀ t i : Nat, i + t = m → EvQ mi_X10_tuneOf 48 [some (.ref 63), some (.int (nI n)), some (.int q), some (.int (s_msnd h n i)), some (.int (nI i)), none, none] [] (G0 L b) h 0 0 (fun v G' h' => v = some (.int (rm_tof h n m q)) ∧ G' = G0 L b ∧ h' = h) := by
  intro t
  induction t with
  | zero =>
    intro i hi
    have hi2 : i = m := by omega
    subst hi2
    refine ev_iload rfl rfl rfl ?_
    refine ev_aload_n rfl rfl rfl ?_
    refine ev_getR rfl rfl fl_X10_51 rfl rfl rfl rfl ?_
    refine ev_iload_n rfl rfl rfl ?_
    refine ev_iald rfl rfl rfl (vp_in_nI (by omega) (by decide)) (nI_clamp (by omega)) ?_
    refine ev_icmp_ge rfl rfl (fun c_56 => ?_) (fun z_ => absurd (by rw [hm]; exact Int32.le_refl _) z_)
    refine ev_bipush (v := (-4)) rfl rfl (by decide) ?_
    refine ev_istore rfl rfl rfl rfl ?_
    dsimp only [List.set]
    refine ev_bipush (v := (-4)) rfl rfl (by decide) ?_
    refine ev_istore rfl rfl rfl rfl ?_
    dsimp only [List.set]
    refine ev_iconst (v := 0) rfl rfl (by decide) ?_
    refine ev_istore rfl rfl rfl rfl ?_
    dsimp only [List.set]
    exact l_mtof2 L b h n hn _ hm0 hm q hq _ rfl 12 rfl 12 0 (by omega)
  | succ t ih =>
    intro i hi
    refine ev_iload rfl rfl rfl ?_
    refine ev_aload_n rfl rfl rfl ?_
    refine ev_getR rfl rfl fl_X10_51 rfl rfl rfl rfl ?_
    refine ev_iload_n rfl rfl rfl ?_
    refine ev_iald rfl rfl rfl (vp_in_nI (by omega) (by decide)) (nI_clamp (by omega)) ?_
    refine ev_icmp_ge rfl rfl (fun z_ => absurd z_ (by rw [hm]; exact nI_ge (by omega) (by omega))) (fun c_56 => ?_)
    refine ev_iload_n rfl rfl rfl ?_
    refine ev_aload_n rfl rfl rfl ?_
    refine ev_iload_n rfl rfl rfl ?_
    refine ev_iload rfl rfl rfl ?_
    refine ev_V2D rfl rfl lk_X10_263 vt_X10_chordAt rfl rfl rfl rfl rfl (c_mchordAt L b h n hn i (by omega)) ?_
    refine ev_S1D rfl rfl lk_X10_220 st_X10_bits rfl rfl (c_bits _ _ _) ?_
    refine ev_iadd rfl rfl ?_
    refine ev_istore_n rfl rfl rfl rfl ?_
    dsimp only [List.set]
    refine ev_iinc (y := 1) rfl rfl rfl (by decide) rfl rfl ?_
    dsimp only [List.set]
    refine ev_goto rfl rfl ?_
    have z_ := ih (i + 1) (by omega)
    simp only [s_msnd] at z_
    rw [nI_1 i]
    exact z_

def r_mtof (h : Hp) (t q : Int32) : Int32 := if z_has t (h 63 23) = 0 then -1 else if z_wi q 0 3 = 0 then (if z_wi q 10 (9 + h 73 t.toNatClampNeg) = 0 then -1 else rm_tof h t.toNatClampNeg (h 73 t.toNatClampNeg).toNatClampNeg q) else rm_tof h t.toNatClampNeg (h 73 t.toNatClampNeg).toNatClampNeg q

set_option maxRecDepth 100000 in
set_option maxHeartbeats 4000000 in
theorem c_misTune (L : Nat) (b : Bool) (h : Hp) (hB : Bx h) (t : Int32) : EvD mi_X10_isTune [.ref 63, .int t] (G0 L b) h (z_has t (h 63 23)) (h) := by
  refine EvD.of (lo := [some (.ref 63), some (.int t)]) pf_X10_isTune ok_X10_isTune rfl rfl ?_
  refine ev_iload_n rfl rfl rfl ?_
  refine ev_i2l rfl rfl ?_
  refine ev_lconst (v := 0) rfl rfl rfl ?_
  refine ev_aload_n rfl rfl rfl ?_
  refine ev_getI rfl rfl fl_X10_257 rfl rfl rfl ?_
  refine ev_iconst (v := 1) rfl rfl (by decide) ?_
  refine ev_isub rfl rfl ?_
  refine ev_i2l rfl rfl ?_
  refine ev_S3D rfl rfl lk_X10_124 st_X10_in rfl rfl (c_inw _ _ _ (0) (h 63 23 - 1) (by decide) rfl) ?_
  rw [z_wi_has ((show B (h 63 23) 0 6 from hB 63 23).mono (by decide) (by decide))]
  exact ev_iret rfl rfl (z_has_b _ _) (⟨rfl, rfl, rfl⟩)

set_option maxRecDepth 100000 in
set_option maxHeartbeats 4000000 in
theorem c_mtof (L : Nat) (b : Bool) (h : Hp) (hB : Bx h) (t q : Int32) : EvD mi_X10_tuneOf [.ref 63, .int t, .int q] (G0 L b) h (r_mtof h t q) (h) := by
  refine EvD.of (lo := [some (.ref 63), some (.int t), some (.int q), none, none, none, none]) pf_X10_tuneOf ok_X10_tuneOf rfl rfl ?_
  refine ev_aload_n rfl rfl rfl ?_
  refine ev_iload_n rfl rfl rfl ?_
  refine ev_V1D rfl rfl lk_X10_266 vt_X10_isTune rfl rfl rfl rfl rfl (c_misTune L b h hB _) ?_
  refine ev_if_eq rfl rfl (fun c_5 => ?_) (fun c_5 => ?_)
  · refine ev_iconst (v := (-1)) rfl rfl (by decide) ?_
    exact ev_iret rfl rfl rfl (⟨congrArg (fun z => some (Value.int z)) (by simp only [r_mtof, if_pos c_5]), rfl, rfl⟩)
  · have pt : B t 0 5 := by
      have z_ := z_has_B (show B (h 63 23) 0 6 from hB 63 23) c_5
      have y_ := (show B (h 63 23) 0 6 from hB 63 23).2
      exact ⟨z_.1, by omega⟩
    obtain ⟨n, hn, rfl, en⟩ := B.nat6 pt
    have p9 : B (9 + h 73 n) 9 33 := (B.add (by decide : B 9 9 9) (show B (h 73 n) 0 24 from hB 73 n) (by decide) (by decide)).1
    refine ev_iload_n rfl rfl rfl ?_
    refine ev_i2l rfl rfl ?_
    refine ev_lconst (v := 0) rfl rfl rfl ?_
    refine ev_ldc2 rfl rfl kc_X10_269 ?_
    refine ev_S3D rfl rfl lk_X10_124 st_X10_in rfl rfl (c_inw _ _ _ (0) (3) (by decide) (by decide)) ?_
    refine ev_if_ne rfl rfl (fun c_17 => ?_) (fun c_17 => ?_)
    · refine ev_iconst (v := 0) rfl rfl (by decide) ?_
      refine ev_istore_n rfl rfl rfl rfl ?_
      dsimp only [List.set]
      refine ev_iconst (v := 0) rfl rfl (by decide) ?_
      refine ev_istore rfl rfl rfl rfl ?_
      dsimp only [List.set]
      simp only [r_mtof, if_neg c_5, if_neg c_17, en]
      exact l_mtof1 L b h n hn _ (B.nI (u := 24) (hB 73 n)).2 (B.nI (u := 24) (hB 73 n)).1 q (Or.inl (z_wi_B (by decide : B 0 0 0) (by decide : B 3 3 3) c_17)) (h 73 n).toNatClampNeg 0 (by omega)
    · refine ev_iload_n rfl rfl rfl ?_
      refine ev_i2l rfl rfl ?_
      refine ev_ldc2 rfl rfl kc_X10_271 ?_
      refine ev_bipush (v := 9) rfl rfl (by decide) ?_
      refine ev_aload_n rfl rfl rfl ?_
      refine ev_getR rfl rfl fl_X10_51 rfl rfl rfl rfl ?_
      refine ev_iload_n rfl rfl rfl ?_
      refine ev_iald rfl rfl rfl (vp_in_nI (by omega) (by decide)) (nI_clamp (by omega)) ?_
      refine ev_iadd rfl rfl ?_
      refine ev_i2l rfl rfl ?_
      refine ev_S3D rfl rfl lk_X10_124 st_X10_in rfl rfl (c_inw _ _ _ (10) (9 + h 73 n) (by decide) rfl) ?_
      refine ev_if_ne rfl rfl (fun c_38 => ?_) (fun c_38 => ?_)
      · refine ev_iconst (v := 0) rfl rfl (by decide) ?_
        refine ev_istore_n rfl rfl rfl rfl ?_
        dsimp only [List.set]
        refine ev_iconst (v := 0) rfl rfl (by decide) ?_
        refine ev_istore rfl rfl rfl rfl ?_
        dsimp only [List.set]
        simp only [r_mtof, if_neg c_5, if_pos c_17, if_neg c_38, en]
        exact l_mtof1 L b h n hn _ (B.nI (u := 24) (hB 73 n)).2 (B.nI (u := 24) (hB 73 n)).1 q (Or.inr (z_wi_B (by decide : B 10 10 10) p9 c_38)) (h 73 n).toNatClampNeg 0 (by omega)
      · refine ev_iconst (v := (-1)) rfl rfl (by decide) ?_
        exact ev_iret rfl rfl rfl (⟨congrArg (fun z => some (Value.int z)) (by simp only [r_mtof, if_neg c_5, if_pos c_17, if_pos c_38, en]), rfl, rfl⟩)

def tf_ck (n : Nat) : Bool := decide (z_ls (nI n) = v_ls (nI n) 12) && decide (z_gr (nI n) = v_gr (nI n) 12) && decide (z_bc (nI n) = s_bits (nI n) 12)
theorem tf_all : ck_all tf_ck 4096 = true := by decide +kernel
theorem tf_of {x : Int32} (h : B x 0 4095) : z_ls x = v_ls x 12 ∧ z_gr x = v_gr x 12 ∧ z_bc x = s_bits x 12 := by
  have p : B x 0 ((4095 : Nat) : Int) := h
  have l := (B.nI p).2
  have e := ck_at tf_all x.toNatClampNeg (by omega)
  unfold tf_ck at e
  rw [Bool.and_eq_true, Bool.and_eq_true, decide_eq_true_eq, decide_eq_true_eq, decide_eq_true_eq] at e
  rw [← (B.nI p).1] at e
  exact ⟨e.1.1, e.1.2, e.2⟩
theorem snd_eq {h : Hp} (hB : Bx h) {n : Nat} : ∀ m, (∀ i, i < m → h (30 + n) i = h 74 (24 * n + i)) → s_snd h (30 + n) m = s_msnd h n m
  | 0, _ => rfl
  | m + 1, e => by
    unfold s_snd s_msnd
    rw [snd_eq hB m (fun i hi => e i (by omega)), e m (by omega), (tf_of (show B (h 74 (24 * n + m)) 0 4095 from hB 74 _)).2.2]
theorem or_eq {h : Hp} {n : Nat} : ∀ m, (∀ i, i < m → h (30 + n) i = h 74 (24 * n + i)) → s_or h (30 + n) m = s_mor h n m
  | 0, _ => rfl
  | m + 1, e => by
    unfold s_or s_mor
    rw [or_eq m (fun i hi => e i (by omega)), e m (by omega)]
theorem rel_tof {h : Hp} (hB : Bx h) (hR : RTU h) (t q : Int32) : r_tof h t q = r_mtof h t q := by
  obtain ⟨-, -, r3, r4⟩ := hR
  unfold r_tof r_mtof
  rw [r3]
  by_cases c0 : z_has t (h 63 23) = 0
  · rw [if_pos c0, if_pos c0]
  · rw [if_neg c0, if_neg c0]
    have b6 : B (h 63 23) 0 6 := hB 63 23
    have z := z_has_B b6 c0
    have pt : B t 0 5 := ⟨z.1, by have := b6.2; omega⟩
    obtain ⟨n, hn, rfl, en⟩ := B.nat6 pt
    have nlt : n < (h 28 2).toNatClampNeg := by
      have z2 := z.2
      rw [nI_toInt (by omega)] at z2
      have e2 : (h 28 2).toNatClampNeg = (h 28 2).toInt.toNat := rfl
      rw [r3] at e2
      rw [r3]
      omega
    obtain ⟨a1, a2⟩ := r4 n nlt
    rw [en]
    have b24 : B (h 36 n) 0 24 := hB 36 n
    have em := B.nI (u := 24) b24
    have eor := or_eq (h := h) (n := n) (h 36 n).toNatClampNeg a2
    have esn := snd_eq hB (n := n) (h 36 n).toNatClampNeg a2
    have bo : B (s_mor h n (h 36 n).toNatClampNeg) 0 4095 := s_mor_B (fun i => hB 74 i) _
    have tf := tf_of bo
    rw [eor, esn, tf.1, tf.2.1, ← a1]
    unfold rm_tof
    rw [← a1]
    by_cases q0 : q = 0
    · subst q0
      rw [if_pos rfl, if_neg (show ¬ z_wi 0 0 3 = 0 by decide), if_pos rfl]
    by_cases q1 : q = 1
    · subst q1
      rw [if_neg (by decide), if_pos rfl, if_neg (show ¬ z_wi 1 0 3 = 0 by decide), if_neg (by decide), if_pos rfl]
    by_cases q2 : q = 2
    · subst q2
      rw [if_neg (by decide), if_neg (by decide), if_pos rfl, if_neg (show ¬ z_wi 2 0 3 = 0 by decide), if_neg (by decide), if_neg (by decide), if_pos rfl]
    by_cases q3 : q = 3
    · subst q3
      rw [if_neg (by decide), if_neg (by decide), if_neg (by decide), if_pos rfl, if_neg (show ¬ z_wi 3 0 3 = 0 by decide), if_neg (by decide), if_neg (by decide), if_neg (by decide), if_pos rfl]
    have w3 : z_wi q 0 3 = 0 := Decidable.byContradiction (fun y => by
      have p := z_wi_B (by decide : B 0 0 0) (by decide : B 3 3 3) y
      have p1 : B q 1 3 := R_neL p (by decide : B 0 0 0) q0 (by decide)
      have p2 : B q 2 3 := R_neL p1 (by decide : B 1 1 1) q1 (by decide)
      have p3 : B q 3 3 := R_neL p2 (by decide : B 2 2 2) q2 (by decide)
      exact q3 (D_eq p3 (by decide)))
    rw [if_neg q0, if_neg q1, if_neg q2, if_neg q3, if_pos w3, if_neg q0, if_neg q1, if_neg q2, if_neg q3]
    have e10 : (10 : Int32).toInt = 10 := by decide
    have b1 := b24.1
    have b2 := b24.2
    have e9 := (B.add (by decide : B 9 9 9) b24 (by decide) (by decide)).2
    have e9' : (9 : Int32).toInt = 9 := by decide
    have iff : z_isBeat h (nI n) q 10 = z_wi q 10 (9 + h 36 n) := by
      unfold z_isBeat z_wi
      rw [r3, if_neg c0, en]
      by_cases c : q < 10
      · rw [if_pos c, if_pos c]
      · rw [if_neg c, if_neg c]
        have cn := w_nlt c
        have hq := Int32.toInt_lt q
        have es := w_sub (x := q) (y := 10) (by omega) (by omega)
        have ee : (h 36 n ≤ q - 10) ↔ (9 + h 36 n < q) := by
          rw [Int32.le_iff_toInt_le, Int32.lt_iff_toInt_lt, es, e9]
          omega
        by_cases d : h 36 n ≤ q - 10
        · rw [if_pos d, if_pos (ee.mp d)]
        · rw [if_neg d, if_neg (fun y => d (ee.mpr y))]
    rw [iff]
    by_cases c : z_wi q 10 (9 + h 36 n) = 0
    · rw [if_pos c, if_pos c]
    · rw [if_neg c, if_neg c]
      have c2 : ¬ z_isBeat h (nI n) q 10 = 0 := by rw [iff]; exact c
      unfold z_isBeat at c2
      rw [r3, if_neg c0, en] at c2
      have cq : ¬ q < 10 := fun y => c2 (by rw [if_pos y])
      rw [if_neg cq] at c2
      have cd : ¬ h 36 n ≤ q - 10 := fun y => c2 (by rw [if_pos y])
      have cn := w_nlt cq
      have hq := Int32.toInt_lt q
      have es := w_sub (x := q) (y := 10) (by omega) (by omega)
      have cd2 := w_lt (Int32.not_le.mp cd)
      refine a2 _ ?_
      show (q - 10).toInt.toNat < (h 36 n).toInt.toNat
      omega

