set_option maxRecDepth 100000 in
set_option maxHeartbeats 4000000 in
theorem c_addB (L : Nat) (b : Bool) (h : Hp) (i : Nat) (hi : i < 24) (he : h 45 2 = nI i) (x y : Int32) : EvU mi_X6_addBeat [.ref 45, .int x, .int y] (G0 L b) h (ev_set (ev_set (ev_set h 46 i x) 47 i y) 45 2 (nI (i + 1))) := by
  refine EvU.of (lo := [some (.ref 45), some (.int x), some (.int y)]) pf_X6_addBeat ok_X6_addBeat rfl rfl ?_
  refine ev_aload_n rfl rfl rfl ?_
  refine ev_getI rfl rfl fl_X6_18 rfl rfl rfl ?_
  try simp (disch := omega) only [ev_rd1, ev_rd2, ev_rd3, he]
  refine ev_bipush (v := 24) rfl rfl (by decide) ?_
  refine ev_icmp_ge rfl rfl (fun z_ => absurd z_ (show ¬ nI 24 ≤ nI i from nI_ge (by omega) (by omega))) (fun c_6 => ?_)
  refine ev_aload_n rfl rfl rfl ?_
  refine ev_getR rfl rfl fl_X6_9 rfl rfl rfl rfl ?_
  refine ev_aload_n rfl rfl rfl ?_
  refine ev_getI rfl rfl fl_X6_18 rfl rfl rfl ?_
  try simp (disch := omega) only [ev_rd1, ev_rd2, ev_rd3, he]
  refine ev_iload_n rfl rfl rfl ?_
  refine ev_iast rfl rfl rfl rfl (vp_in_nI (by omega) (by decide)) (nI_clamp (by omega)) ?_
  refine ev_aload_n rfl rfl rfl ?_
  refine ev_getR rfl rfl fl_X6_15 rfl rfl rfl rfl ?_
  refine ev_aload_n rfl rfl rfl ?_
  refine ev_getI rfl rfl fl_X6_18 rfl rfl rfl ?_
  try simp (disch := omega) only [ev_rd1, ev_rd2, ev_rd3, he]
  refine ev_iload_n rfl rfl rfl ?_
  refine ev_iast rfl rfl rfl rfl (vp_in_nI (by omega) (by decide)) (nI_clamp (by omega)) ?_
  refine ev_aload_n rfl rfl rfl ?_
  refine ev_dup rfl rfl rfl ?_
  refine ev_getI rfl rfl fl_X6_18 rfl rfl rfl ?_
  try simp (disch := omega) only [ev_rd1, ev_rd2, ev_rd3, he]
  refine ev_iconst (v := 1) rfl rfl (by decide) ?_
  refine ev_iadd rfl rfl ?_
  rw [nI_1 i]
  refine ev_putI rfl rfl fl_X6_18 rfl rfl rfl rfl rfl ?_
  exact ev_vret rfl rfl trivial (⟨rfl, rfl, rfl⟩)

set_option maxRecDepth 100000 in
set_option maxHeartbeats 4000000 in
theorem c_forget (L : Nat) (b : Bool) (h : Hp)  : EvU mi_X6_forget [.ref 45] (G0 L b) h (ev_set h 45 2 0) := by
  refine EvU.of (lo := [some (.ref 45)]) pf_X6_forget ok_X6_forget rfl rfl ?_
  refine ev_aload_n rfl rfl rfl ?_
  refine ev_iconst (v := 0) rfl rfl (by decide) ?_
  refine ev_putI rfl rfl fl_X6_18 rfl rfl rfl rfl rfl ?_
  exact ev_vret rfl rfl trivial (⟨rfl, rfl, rfl⟩)

def cB (h : Hp) (n : Nat) (k : Int32) (i : Nat) : Int32 := z_mv (h (30 + n) i) k
def vB (h : Hp) (n s : Nat) (k f : Int32) (i : Nat) : Int32 := if cB h n k i = 0 then -32768 else h (57 + s) (f + nI i).toNatClampNeg
/-- a beat sounds whose cell isn't there -/
def TBd (c : Nat → Int32) (f s : Int32) (M : Nat) : Prop := ∃ i, i < M ∧ ¬ c i = 0 ∧ z_has (f + nI i) s = 0
theorem wt30 {n j : Nat} (hn : n < 6) : wm [(45, 2), (46, 999), (47, 999)] (30 + n) j = false := by
  rcases (show n = 0 ∨ n = 1 ∨ n = 2 ∨ n = 3 ∨ n = 4 ∨ n = 5 by omega) with rfl | rfl | rfl | rfl | rfl | rfl <;> rfl
theorem wt57 {n j : Nat} (hn : n < 4) : wm [(45, 2), (46, 999), (47, 999)] (57 + n) j = false := by
  rcases (show n = 0 ∨ n = 1 ∨ n = 2 ∨ n = 3 by omega) with rfl | rfl | rfl | rfl <;> rfl
def TH (h : Hp) (n s : Nat) (k f : Int32) (M : Nat) (r : Int32) (z : Hp) : Prop := (r = 2 ∧ TBd (cB h n k) f (h 62 s) M) ∨ (r = 0 ∧ ¬ TBd (cB h n k) f (h 62 s) M ∧ z 45 2 = nI M ∧ ∀ j, j < M → z 46 j = cB h n k j ∧ z 47 j = vB h n s k f j)

set_option maxRecDepth 100000 in
set_option maxHeartbeats 4000000 in
theorem x_th (L : Nat) (b : Bool) (h : Hp) (hB : Bx h) (n : Nat) (hn : n < 6) (s : Nat) (hs : s < 4) (k f : Int32) (M : Nat) (hM : M ≤ 24) (e36 : h 36 n = nI M) (bc : ∀ i, i < M → B (cB h n k i) 0 4095) (H : Hp) (hJ : JW [(45, 2), (46, 999), (47, 999)] h H) (i : Nat) (hi : i < M) (e2 : H 45 2 = nI i) (rows : ∀ j, j < i → H 46 j = cB h n k j ∧ H 47 j = vB h n s k f j) (kc ks : Nat) (Q : Pst) (kq : ∀ H3, JW [(45, 2), (46, 999), (47, 999)] h H3 → H3 45 2 = nI (i + 1) → (∀ j, j < i + 1 → H3 46 j = cB h n k j ∧ H3 47 j = vB h n s k f j) → EvQ mi_X9_takeHeard 10 [some (.ref 1), some (.int (nI n)), some (.int k), some (.int (nI s)), some (.int f), some (.int (nI (i + 1))), none, none] [] (G0 L b) H3 kc ks Q) : EvQ mi_X9_takeHeard 82 [some (.ref 1), some (.int (nI n)), some (.int k), some (.int (nI s)), some (.int f), some (.int (nI i)), some (.int (cB h n k i)), some (.int (vB h n s k f i))] [] (G0 L b) H kc ks Q := by
  refine ev_aload_n rfl rfl rfl ?_
  refine ev_getR rfl rfl fl_X9_57 rfl rfl rfl rfl ?_
  refine ev_iload rfl rfl rfl ?_
  refine ev_iload rfl rfl rfl ?_
  refine ev_V2U rfl rfl lk_X9_365 vt_X6_addBeat rfl rfl rfl rfl rfl (c_addB L b H i (by omega) e2 _ _) ?_
  refine ev_iinc (y := 1) rfl rfl rfl (by decide) rfl rfl ?_
  dsimp only [List.set]
  refine ev_goto rfl rfl ?_
  have j3 : JW [(45, 2), (46, 999), (47, 999)] h (ev_set (ev_set (ev_set H 46 i (cB h n k i)) 47 i (vB h n s k f i)) 45 2 (nI (i + 1))) := ((hJ.set rfl (bc i hi)).set rfl (B.any _)).set rfl (show B (nI (i + 1)) 0 24 from nI_B (by omega) (by omega))
  rw [nI_1 i]
  exact EvQ.drop 7 (EvQ.drop 6 (kq _ j3 (ev_rd1 _ _ _ _) (fun j hj => by
    rw [ev_rd2 (by decide), ev_rd2 (by decide), ev_sj, ev_rd2 (by decide), ev_sj, ev_rd2 (by decide)]
    by_cases e : j = i
    · subst e; rw [if_pos rfl, if_pos rfl]; exact ⟨rfl, rfl⟩
    · rw [if_neg e, if_neg e]; exact rows j (by omega))))

set_option maxRecDepth 100000 in
set_option maxHeartbeats 4000000 in
theorem l_th (L : Nat) (b : Bool) (h : Hp) (hB : Bx h) (n : Nat) (hn : n < 6) (s : Nat) (hs : s < 4) (k f : Int32) (M : Nat) (hM : M ≤ 24) (e36 : h 36 n = nI M) (bc : ∀ i, i < M → B (cB h n k i) 0 4095) : ∀ (t i : Nat) (H : Hp), i + t = M → JW [(45, 2), (46, 999), (47, 999)] h H → H 45 2 = nI i → (∀ j, j < i → H 46 j = cB h n k j ∧ H 47 j = vB h n s k f j) → (∀ j, j < i → ¬ cB h n k j = 0 → ¬ z_has (f + nI j) (h 62 s) = 0) → EvQ mi_X9_takeHeard 10 [some (.ref 1), some (.int (nI n)), some (.int k), some (.int (nI s)), some (.int f), some (.int (nI i)), none, none] [] (G0 L b) H 0 0 (QI (fun r z => TH h n s k f M r z) [(45, 2), (46, 999), (47, 999)] (G0 L b) h) := by
  intro t
  induction t with
  | zero =>
    intro i H hi hJ e2 rows nb
    have hi2 : i = M := by omega
    subst hi2
    have e36H : H 36 n = nI i := (hJ.2 36 n rfl).trans e36
    refine ev_iload rfl rfl rfl ?_
    refine ev_aload_n rfl rfl rfl ?_
    refine ev_getR rfl rfl fl_X9_43 rfl rfl rfl rfl ?_
    refine ev_getR rfl rfl fl_X9_196 rfl rfl rfl rfl ?_
    refine ev_iload_n rfl rfl rfl ?_
    refine ev_iald rfl rfl rfl (vp_in_nI (by omega) (by decide)) (nI_clamp (by omega)) ?_
    try simp only [e36H]
    refine ev_icmp_ge rfl rfl (fun c_21 => ?_) (fun z_ => absurd (Int32.le_refl _) z_)
    refine ev_iconst (v := 0) rfl rfl (by decide) ?_
    exact ev_iret rfl rfl rfl (⟨⟨_, rfl, Or.inr ⟨rfl, fun ⟨j, a1, a2, a3⟩ => nb j a1 a2 a3, e2, rows⟩⟩, rfl, hJ⟩)
  | succ t ih =>
    intro i H hi hJ e2 rows nb
    have e36H : H 36 n = nI M := (hJ.2 36 n rfl).trans e36
    refine ev_iload rfl rfl rfl ?_
    refine ev_aload_n rfl rfl rfl ?_
    refine ev_getR rfl rfl fl_X9_43 rfl rfl rfl rfl ?_
    refine ev_getR rfl rfl fl_X9_196 rfl rfl rfl rfl ?_
    refine ev_iload_n rfl rfl rfl ?_
    refine ev_iald rfl rfl rfl (vp_in_nI (by omega) (by decide)) (nI_clamp (by omega)) ?_
    first | simp only [e36H, eC] | simp only [e36H] | skip
    refine ev_icmp_ge rfl rfl (fun z_ => absurd z_ (nI_ge (by omega) (by omega))) (fun c_21 => ?_)
    refine ev_aload_n rfl rfl rfl ?_
    refine ev_getR rfl rfl fl_X9_43 rfl rfl rfl rfl ?_
    refine ev_iload_n rfl rfl rfl ?_
    refine ev_iload rfl rfl rfl ?_
    refine ev_iload_n rfl rfl rfl ?_
    refine ev_V3D rfl rfl lk_X9_352 vt_X7_chordIn rfl rfl rfl rfl rfl (EvD.to (c_chordIn L b H n hn i (by omega) k) (show _ = cB h n k i from by unfold cB; rw [hJ.2 (30 + n) i (wt30 hn)]) rfl) ?_
    refine ev_istore rfl rfl rfl rfl ?_
    dsimp only [List.set]
    refine ev_sipush (v := (-32768)) rfl rfl (by decide) ?_
    refine ev_istore rfl rfl rfl rfl ?_
    dsimp only [List.set]
    refine ev_iload rfl rfl rfl ?_
    refine ev_if_eq rfl rfl (fun c_44 => ?_) (fun c_44 => ?_)
    · rw [show (-32768 : Int32) = vB h n s k f i from (if_pos c_44).symm]
      exact x_th L b h hB n hn s hs k f M hM e36 bc H hJ i (by omega) e2 rows _ _ _ (fun H3 j3 e3 r3 => ih (i + 1) H3 (by omega) j3 e3 r3 (fun j hj h1 h2 => by
        by_cases e : j = i
        · subst e; exact h1 c_44
        · exact nb j (by omega) h1 h2))
    · refine ev_aload_n rfl rfl rfl ?_
      refine ev_getR rfl rfl fl_X9_71 rfl rfl rfl rfl ?_
      refine ev_iload_n rfl rfl rfl ?_
      refine ev_iload rfl rfl rfl ?_
      refine ev_iload rfl rfl rfl ?_
      refine ev_iadd rfl rfl ?_
      refine ev_V2D rfl rfl lk_X9_325 vt_X5_hasCell rfl rfl rfl rfl rfl (EvD.to (c_hasCell L b H s hs _) (show _ = z_has (f + nI i) (h 62 s) from by rw [hJ.2 62 s rfl]) rfl) ?_
      refine ev_if_ne rfl rfl (fun c_60 => ?_) (fun c_60 => ?_)
      · have hv : B (f + nI i) 0 59 := by
          have z_ := has_n c_60
          have y_ := (show B (h 62 s) (-1) 60 from hB 62 s).2
          exact ⟨z_.1, by omega⟩
        have eC : H (57 + s) (f + nI i).toNatClampNeg = h (57 + s) (f + nI i).toNatClampNeg := hJ.2 (57 + s) _ (wt57 hs)
        refine ev_aload_n rfl rfl rfl ?_
        refine ev_getR rfl rfl fl_X9_71 rfl rfl rfl rfl ?_
        refine ev_getR rfl rfl fl_X9_362 rfl rfl rfl rfl ?_
        refine ev_iload_n rfl rfl rfl ?_
        refine ev_aald (y := 57 + s) (j := s) rfl rfl rfl rfl (vp_in_nI (by omega) (by decide)) (nI_clamp (by omega)) (g_sht L b hs).1 ?_
        refine ev_iload rfl rfl rfl ?_
        refine ev_iload rfl rfl rfl ?_
        refine ev_iadd rfl rfl ?_
        refine ev_iald rfl rfl (g_sht L b hs).2 (hv.vp (by decide) (by decide)) rfl ?_
        first | simp only [e36H, eC] | simp only [e36H] | skip
        refine ev_istore rfl rfl rfl rfl ?_
        dsimp only [List.set]
        rw [show h (57 + s) (f + nI i).toNatClampNeg = vB h n s k f i from (if_neg c_44).symm]
        exact x_th L b h hB n hn s hs k f M hM e36 bc H hJ i (by omega) e2 rows _ _ _ (fun H3 j3 e3 r3 => ih (i + 1) H3 (by omega) j3 e3 r3 (fun j hj h1 h2 => by
          by_cases e : j = i
          · subst e; exact c_60 h2
          · exact nb j (by omega) h1 h2))
      · refine ev_iconst (v := 2) rfl rfl (by decide) ?_
        exact ev_iret rfl rfl rfl (⟨⟨_, rfl, Or.inl ⟨rfl, i, by omega, c_44, c_60⟩⟩, rfl, hJ⟩)

set_option maxRecDepth 100000 in
set_option maxHeartbeats 4000000 in
theorem c_th (L : Nat) (b : Bool) (h : Hp) (hB : Bx h) (n : Nat) (hn : n < 6) (s : Nat) (hs : s < 4) (k f : Int32) (M : Nat) (hM : M ≤ 24) (e36 : h 36 n = nI M) (bc : ∀ i, i < M → B (cB h n k i) 0 4095)  : EvI mi_X9_takeHeard [.ref 1, .int (nI n), .int k, .int (nI s), .int f] (G0 L b) h (fun r z => TH h n s k f M r z) [(45, 2), (46, 999), (47, 999)] := by
  refine EvM.of2 (lo := [some (.ref 1), some (.int (nI n)), some (.int k), some (.int (nI s)), some (.int f), none, none, none]) pf_X9_takeHeard ok_X9_takeHeard rfl rfl ?_
  refine ev_aload_n rfl rfl rfl ?_
  refine ev_getR rfl rfl fl_X9_57 rfl rfl rfl rfl ?_
  refine ev_V0U rfl rfl lk_X9_359 vt_X6_forget rfl rfl rfl rfl rfl (c_forget L b h) ?_
  refine ev_iconst (v := 0) rfl rfl (by decide) ?_
  refine ev_istore rfl rfl rfl rfl ?_
  dsimp only [List.set]
  exact l_th L b h hB n hn s hs k f M hM e36 bc M 0 _ (by omega) ((JW.refl hB).set rfl (by decide)) (ev_rd1 _ _ _ _) (fun j hj => absurd hj (Nat.not_lt_zero _)) (fun j hj => absurd hj (Nat.not_lt_zero _))

def z_tld (w q : Int32) : Int32 := if z_wi q 0 2 = 0 then (if q < 20 then 0 else z_has (q - 20) w) else 1
def r_bg (h : Hp) (t k p s l q : Int32) : Int32 := if z_tld (h 4 7) q = 0 then -1000 else if z_has t (h 28 2) = 0 then -1000 else if z_wi k (-11) 11 = 0 then -1000 else if z_wi p 0 (h 2 3) = 0 then -1000 else if z_has s 4 = 0 then -1000 else if z_wi l 0 2 = 0 then -1000 else if gsC h t k = 0 then -1002 else if z_fas (h 62 s.toNatClampNeg) (h 61 s.toNatClampNeg) l = 0 then 0 else -1010 - z_fas (h 62 s.toNatClampNeg) (h 61 s.toNatClampNeg) l
def bA (x : Int32 × Nat × (Nat → Int32)) (q : Int32) : Int32 := if q = 0 then x.1 else if q = 1 then (if x.2.1 = 0 then -4 else nI x.2.1 - 1) else if q = 2 then s_cb x.2.2 12 else x.2.2 (q - 20).toNatClampNeg
/-- behind the guards -/
def BLM (o : Option (Int32 × Nat × (Nat → Int32))) (T : Prop) (q r : Int32) : Prop := (T → r = -1012) ∧ (¬ T → (o = none → r = -1004) ∧ ∀ x, o = some x → r = bA x q)
theorem BLM.one {o : Option (Int32 × Nat × (Nat → Int32))} {T : Prop} {q r r' : Int32} (h : BLM o T q r) (h' : BLM o T q r') : r = r' := by
  by_cases t : T
  · rw [h.1 t, h'.1 t]
  · cases o with
    | none => rw [(h.2 t).1 rfl, (h'.2 t).1 rfl]
    | some x => rw [(h.2 t).2 x rfl, (h'.2 t).2 x rfl]
def oC_ (h : Hp) (t k p s f : Int32) := fr (eX h (nW h) (h 36 t.toNatClampNeg).toNatClampNeg (cB h t.toNatClampNeg k) (vB h t.toNatClampNeg s.toNatClampNeg k f) p) (nW h + 1)
def tB_ (h : Hp) (t k s f : Int32) : Prop := TBd (cB h t.toNatClampNeg k) f (h 62 s.toNatClampNeg) (h 36 t.toNatClampNeg).toNatClampNeg
theorem tld_q {w q : Int32} (hw : B w 0 12) (h : ¬ z_tld w q = 0) : B q 0 2 ∨ B q 20 31 := by
  unfold z_tld at h
  by_cases c : z_wi q 0 2 = 0
  · rw [if_pos c] at h
    by_cases d : q < 20
    · rw [if_pos d] at h; exact absurd rfl h
    · rw [if_neg d] at h
      right
      have z := has_n h
      have e20 : (20 : Int32).toInt = 20 := by decide
      have d1 := w_nlt d
      have l := Int32.toInt_lt q
      have e := w_sub (x := q) (y := 20) (by omega) (by omega)
      have h2 := hw.2
      exact ⟨by omega, by omega⟩
  · exact Or.inl (z_wi_B (by decide : B 0 0 0) (by decide : B 2 2 2) c)
theorem fas_01 {a b l : Int32} (h : ¬ z_fas a b l = 0) : z_fas a b l = 1 ∨ z_fas a b l = 3 := by
  unfold z_fas at *
  split
  · rename_i y
    rw [if_pos y] at h
    split
    · rename_i z; rw [if_pos z] at h; exact absurd rfl h
    · exact Or.inr rfl
  · exact Or.inl rfl

theorem ans_b {h : Hp} {x : Int32 × Nat × (Nat → Int32)} {q : Int32} (hq : B q 0 2 ∨ B q 20 31) (x1 : h 45 6 = x.1) (x2 : h 45 7 = nI x.2.1 - 1) (x3 : ∀ w, w < 12 → h 49 w = x.2.2 w) (hu : x.2.1 ≤ 12) : r_ans h q = bA x q := by
  unfold r_ans bA
  by_cases q0 : q = 0
  · rw [if_pos q0, if_pos q0, x1]
  by_cases q1 : q = 1
  · rw [if_neg q0, if_neg q0, if_pos q1, if_pos q1, x2]
    by_cases u0 : x.2.1 = 0
    · rw [if_pos u0, u0]; decide
    · rw [if_neg u0, if_neg (u_ne u0 hu)]
  by_cases q2 : q = 2
  · rw [if_neg q0, if_neg q0, if_neg q1, if_neg q1, if_pos q2, if_pos q2]
    exact s_cb_cg 12 x3
  rw [if_neg q0, if_neg q0, if_neg q1, if_neg q1, if_neg q2, if_neg q2]
  have p : B (q - 20) 0 ((11 : Nat) : Int) := z_q20 hq q0 q1 q2
  exact x3 _ (by have := (B.nI p).2; omega)
theorem fr_le {E : Nat → Option (Nat → Int32)} : ∀ n x, fr E n = some x → x.2.1 < n
  | 0, x, e => by cases e
  | n + 1, x, e => by
    cases hE : E n with
    | none => rw [fr_n hE] at e; exact Nat.lt_succ_of_lt (fr_le n x e)
    | some tr =>
      cases hf : fr E n with
      | none => rw [fr_0 hE hf] at e; cases e; exact Nat.lt_succ_self n
      | some y =>
        by_cases c : co n tr < y.1
        · rw [fr_l hE hf c] at e; cases e; exact Nat.lt_succ_self n
        · rw [fr_g hE hf c] at e; cases e; exact Nat.lt_succ_of_lt (fr_le n x hf)

set_option maxRecDepth 100000 in
set_option maxHeartbeats 4000000 in
theorem w_blameC (L : Nat) (b : Bool) (h : Hp) (hB : Bx h) (t k p s l f q : Int32) : EvI mi_X9_blame [.ref 1, .int t, .int k, .int p, .int s, .int l, .int f, .int q] (G0 L b) h (fun r _ => (¬ r_bg h t k p s l q = 0 → r = r_bg h t k p s l q) ∧ (r_bg h t k p s l q = 0 → BLM (oC_ h t k p s f) (tB_ h t k s f) q r)) [(45, 2), (45, 4), (45, 6), (45, 7), (46, 999), (47, 999), (48, 999), (49, 999)] := by
  refine EvM.of2 (lo := [some (.ref 1), some (.int t), some (.int k), some (.int p), some (.int s), some (.int l), some (.int f), some (.int q), none, none]) pf_X9_blame ok_X9_blame rfl rfl ?_
  refine ev_iload rfl rfl rfl ?_
  refine ev_iconst (v := 0) rfl rfl (by decide) ?_
  refine ev_iconst (v := 2) rfl rfl (by decide) ?_
  refine ev_S3D rfl rfl lk_X9_75 st_X9_isWithin rfl rfl (c_isWithin _ _ _ _ _) ?_
  refine ev_if_ne rfl rfl (fun c_7 => ?_) (fun c_7 => ?_)
  · refine ev_iconst (v := 1) rfl rfl (by decide) ?_
    refine ev_goto rfl rfl ?_
    refine ev_istore rfl rfl rfl rfl ?_
    dsimp only [List.set]
    refine ev_aload_n rfl rfl rfl ?_
    refine ev_getR rfl rfl fl_X9_43 rfl rfl rfl rfl ?_
    refine ev_iload_n rfl rfl rfl ?_
    refine ev_V1D rfl rfl lk_X9_195 vt_X7_has rfl rfl rfl rfl rfl (c_X7_hasE L b h _) ?_
    refine ev_if_eq rfl rfl (fun c_47 => ?_) (fun c_47 => ?_)
    · refine ev_sipush (v := (-1000)) rfl rfl (by decide) ?_
      exact ev_iret rfl rfl rfl (⟨⟨_, rfl, fun _ => (by simp only [r_bg, z_tld, if_neg c_7, if_pos c_47, ite_self, if_true]), fun z_ => absurd z_ (by simp only [r_bg, z_tld, if_neg c_7, if_pos c_47, ite_self, if_true]; decide)⟩, rfl, JW.refl hB⟩)
    · refine ev_iload_n rfl rfl rfl ?_
      refine ev_S1D rfl rfl lk_X9_227 st_X9_isKey rfl rfl (c_isKey _ _ _) ?_
      refine ev_if_eq rfl rfl (fun c_54 => ?_) (fun c_54 => ?_)
      · refine ev_sipush (v := (-1000)) rfl rfl (by decide) ?_
        exact ev_iret rfl rfl rfl (⟨⟨_, rfl, fun _ => (by simp only [r_bg, z_tld, if_neg c_7, if_neg c_47, if_pos c_54, ite_self, if_true]), fun z_ => absurd z_ (by simp only [r_bg, z_tld, if_neg c_7, if_neg c_47, if_pos c_54, ite_self, if_true]; decide)⟩, rfl, JW.refl hB⟩)
      · refine ev_iload_n rfl rfl rfl ?_
        refine ev_iconst (v := 0) rfl rfl (by decide) ?_
        refine ev_aload_n rfl rfl rfl ?_
        refine ev_getR rfl rfl fl_X9_10 rfl rfl rfl rfl ?_
        refine ev_getI rfl rfl fl_X9_96 rfl rfl rfl ?_
        refine ev_S3D rfl rfl lk_X9_75 st_X9_isWithin rfl rfl (c_isWithin _ _ _ _ _) ?_
        refine ev_if_eq rfl rfl (fun c_69 => ?_) (fun c_69 => ?_)
        · refine ev_sipush (v := (-1000)) rfl rfl (by decide) ?_
          exact ev_iret rfl rfl rfl (⟨⟨_, rfl, fun _ => (by simp only [r_bg, z_tld, if_neg c_7, if_neg c_47, if_neg c_54, if_pos c_69, ite_self, if_true]), fun z_ => absurd z_ (by simp only [r_bg, z_tld, if_neg c_7, if_neg c_47, if_neg c_54, if_pos c_69, ite_self, if_true]; decide)⟩, rfl, JW.refl hB⟩)
        · refine ev_iload rfl rfl rfl ?_
          refine ev_if_ne rfl rfl (fun c_74 => ?_) (fun z_ => absurd z_ (by decide))
          refine ev_aload_n rfl rfl rfl ?_
          refine ev_getR rfl rfl fl_X9_71 rfl rfl rfl rfl ?_
          refine ev_iload rfl rfl rfl ?_
          refine ev_V1D rfl rfl lk_X9_255 vt_X5_has rfl rfl rfl rfl rfl (c_X5_has _ _ _ _) ?_
          refine ev_if_eq rfl rfl (fun c_90 => ?_) (fun c_90 => ?_)
          · refine ev_sipush (v := (-1000)) rfl rfl (by decide) ?_
            exact ev_iret rfl rfl rfl (⟨⟨_, rfl, fun _ => (by simp only [r_bg, z_tld, if_neg c_7, if_neg c_47, if_neg c_54, if_neg c_69, if_neg c_74, if_pos c_90, ite_self, if_true]), fun z_ => absurd z_ (by simp only [r_bg, z_tld, if_neg c_7, if_neg c_47, if_neg c_54, if_neg c_69, if_neg c_74, if_pos c_90, ite_self, if_true]; decide)⟩, rfl, JW.refl hB⟩)
          · refine ev_aload_n rfl rfl rfl ?_
            refine ev_getR rfl rfl fl_X9_71 rfl rfl rfl rfl ?_
            refine ev_iload rfl rfl rfl ?_
            refine ev_V1D rfl rfl lk_X9_256 vt_X5_isLane rfl rfl rfl rfl rfl (c_isLane _ _ _ _) ?_
            refine ev_if_ne rfl rfl (fun c_102 => ?_) (fun c_102 => ?_)
            · have pt : B t 0 5 := z_has_B5 hB c_47
              obtain ⟨n, hn, rfl, en⟩ := B.nat6 pt
              obtain ⟨j, hj, rfl⟩ := z_hask (x := 4) (m := 4) (N := 4) rfl (Nat.le_refl _) (by decide) c_90
              have es := nI_clamp (show j < 2 ^ 31 by omega)
              refine ev_aload_n rfl rfl rfl ?_
              refine ev_getR rfl rfl fl_X9_43 rfl rfl rfl rfl ?_
              refine ev_iload_n rfl rfl rfl ?_
              refine ev_iload_n rfl rfl rfl ?_
              refine ev_aload_n rfl rfl rfl ?_
              refine ev_getR rfl rfl fl_X9_22 rfl rfl rfl rfl ?_
              refine ev_getI rfl rfl fl_X9_158 rfl rfl rfl ?_
              refine ev_V3D rfl rfl lk_X9_230 vt_X7_goes rfl rfl rfl rfl rfl (EvD.to (c_goes L b h n hn _ (B.nI (u := 24) (hB 36 n)).2 (B.nI (u := 24) (hB 36 n)).1 k (h 4 7)) (show _ = gsC h (nI n) k from by unfold gsC; rw [en]) rfl) ?_
              refine ev_if_ne rfl rfl (fun c_125 => ?_) (fun c_125 => ?_)
              · refine ev_aload_n rfl rfl rfl ?_
                refine ev_getR rfl rfl fl_X9_71 rfl rfl rfl rfl ?_
                refine ev_iload rfl rfl rfl ?_
                refine ev_iload rfl rfl rfl ?_
                refine ev_V2D rfl rfl lk_X9_259 vt_X5_faultAs rfl rfl rfl rfl rfl (c_faultAs L b h j hj l) ?_
                refine ev_istore rfl rfl rfl rfl ?_
                dsimp only [List.set]
                have o10 : ¬ (1 : Int32) = 0 := by decide
                have hq : B q 0 2 ∨ B q 20 31 := tld_q (show B (h 4 7) 0 12 from hB 4 7) (by unfold z_tld; rw [if_neg c_7]; decide)
                have bc : ∀ i, i < (h 36 n).toNatClampNeg → B (cB h n k i) 0 4095 := fun i hi => by
                  have g_ := c_125
                  unfold gsC at g_
                  rw [en] at g_
                  exact mv_B (hB.tun hn i) (s_or_B (hB.tun hn) _) (s_or_sub _ i hi) (z_wi_B (by decide : B (-11) (-11) (-11)) (by decide : B 11 11 11) c_54) (show B (h 4 7) 0 12 from hB 4 7) g_
                by_cases fz : z_fas (h 62 j) (h 61 j) l = 0
                · have g0 : r_bg h (nI n) k p (nI j) l q = 0 := by simp only [r_bg, z_tld, if_neg c_7, if_neg c_47, if_neg c_54, if_neg c_69, if_neg c_74, if_neg c_90, if_neg c_102, if_neg c_125, en, es, if_pos fz, if_true, if_neg o10]
                  refine ev_iload rfl rfl rfl ?_
                  refine ev_if_ne rfl rfl (fun z_ => absurd fz z_) (fun c_147 => ?_)
                  refine ev_aload_n rfl rfl rfl ?_
                  refine ev_iload_n rfl rfl rfl ?_
                  refine ev_iload_n rfl rfl rfl ?_
                  refine ev_iload rfl rfl rfl ?_
                  refine ev_iload rfl rfl rfl ?_
                  refine ev_V4I (JW.refl (W := [(45, 2), (45, 4), (45, 6), (45, 7), (46, 999), (47, 999), (48, 999), (49, 999)]) hB) rfl rfl rfl lk_X9_262 vt_X9_takeHeard rfl rfl rfl rfl rfl (c_th L b h hB n hn j hj k f _ (B.nI (u := 24) (hB 36 n)).2 (B.nI (u := 24) (hB 36 n)).1 bc) (fun r1 h1 q1 j1 k1 => ?_)
                  refine ev_istore rfl rfl rfl rfl ?_
                  dsimp only [List.set]
                  rcases q1 with ⟨e_, tb⟩ | ⟨e_, tb, g2, rows⟩
                  · subst e_
                    refine ev_iload rfl rfl rfl ?_
                    refine ev_if_eq rfl rfl (fun z_ => absurd z_ (by decide)) (fun c_164 => ?_)
                    refine ev_sipush (v := (-1010)) rfl rfl (by decide) ?_
                    refine ev_iload rfl rfl rfl ?_
                    refine ev_isub rfl rfl ?_
                    exact ev_iret rfl rfl rfl (⟨⟨_, rfl, fun z_ => absurd g0 z_, fun _ => ⟨fun _ => rfl, fun z_ => absurd (by unfold tB_; rw [en, es]; exact tb) z_⟩⟩, rfl, j1.widen rfl⟩)
                  · subst e_
                    refine ev_iload rfl rfl rfl ?_
                    refine ev_if_eq rfl rfl (fun c_164 => ?_) (fun z_ => absurd (by decide) z_)
                    refine ev_aload_n rfl rfl rfl ?_
                    refine ev_getR rfl rfl fl_X9_57 rfl rfl rfl rfl ?_
                    refine ev_aload_n rfl rfl rfl ?_
                    refine ev_getR rfl rfl fl_X9_10 rfl rfl rfl rfl ?_
                    refine ev_aload_n rfl rfl rfl ?_
                    refine ev_getR rfl rfl fl_X9_22 rfl rfl rfl rfl ?_
                    refine ev_iload_n rfl rfl rfl ?_
                    refine ev_V3I j1 rfl rfl rfl lk_X9_266 vt_X6_find rfl rfl rfl rfl rfl (c_find L b h1 j1.1 (h 36 n).toNatClampNeg (B.nI (u := 24) (hB 36 n)).2 g2 (cB h n k) (vB h n j k f) (fun i hi => (rows i hi).1) (fun i hi => (rows i hi).2) bc (nW h) (B.nI (u := 12) (hB 4 7)).2 ((k1.2 4 7 rfl).trans (B.nI (u := 12) (hB 4 7)).1) p) (fun r2 h2 q2 j2 k2 => ?_)
                    have ee : eX h1 (nW h) (h 36 n).toNatClampNeg (cB h n k) (vB h n j k f) p = (eX h (nW h) (h 36 n).toNatClampNeg (cB h n k) (vB h n j k f) p) := funext (fun u => by
                      have fx : xC h1 = xC h := funext (fun w => funext (fun p => funext (fun v => xC_cg (k1.2 5 w rfl) (k1.2 9 w rfl) (k1.2 7 w rfl) p v)))
                      have fd : ∀ lk, dN h1 (nW h) lk = dN h (nW h) lk := fun lk => funext (fun p => funext (fun c => by
                        unfold dN
                        rw [k1.2 2 3 rfl, k1.2 2 2 rfl, s_drawn_cg (fun k => k1.2 6 k rfl)]))
                      unfold eX
                      rw [fx, fd])
                    rw [ee] at q2
                    have eo : oC_ h (nI n) k p (nI j) f = fr (eX h (nW h) (h 36 n).toNatClampNeg (cB h n k) (vB h n j k f) p) (nW h + 1) := by unfold oC_; rw [en, es]
                    have nt : ¬ tB_ h (nI n) k (nI j) f := by unfold tB_; rw [en, es]; exact tb
                    cases hf : fr (eX h (nW h) (h 36 n).toNatClampNeg (cB h n k) (vB h n j k f) p) (nW h + 1) with
                    | none =>
                      have r0 := q2.1 hf
                      refine ev_if_eq rfl rfl (fun c_190 => ?_) (fun z_ => absurd r0 z_)
                      refine ev_sipush (v := (-1004)) rfl rfl (by decide) ?_
                      exact ev_iret rfl rfl rfl (⟨⟨_, rfl, fun z_ => absurd g0 z_, fun _ => ⟨fun z_ => absurd z_ nt, fun _ => ⟨fun _ => rfl, fun x_ e_ => by rw [eo, hf] at e_; cases e_⟩⟩⟩, rfl, j2⟩)
                    | some x =>
                      obtain ⟨r1_, x1, x2, x3⟩ := q2.2 x hf
                      refine ev_if_eq rfl rfl (fun z_ => absurd z_ (by rw [r1_]; decide)) (fun c_190 => ?_)
                      refine ev_aload_n rfl rfl rfl ?_
                      refine ev_getR rfl rfl fl_X9_57 rfl rfl rfl rfl ?_
                      refine ev_iload rfl rfl rfl ?_
                      refine ev_V1D rfl rfl lk_X9_270 vt_X6_answer rfl rfl rfl rfl rfl (EvD.to (c_ans L b h2 q hq) (show _ = bA x q from ans_b hq x1 x2 x3 (by have l1_ := fr_le _ _ hf; have l2_ := (B.nI (u := 12) (hB 4 7)).2; have e_ : (h 4 7).toNatClampNeg = nW h := rfl; omega)) rfl) ?_
                      refine ev_goto rfl rfl ?_
                      exact ev_iret rfl rfl rfl (⟨⟨_, rfl, fun z_ => absurd g0 z_, fun _ => ⟨fun z_ => absurd z_ nt, fun _ => ⟨fun z_ => (by rw [eo, hf] at z_; cases z_), fun x_ e_ => by rw [eo, hf] at e_; cases e_; rfl⟩⟩⟩, rfl, j2⟩)
                · have gn : r_bg h (nI n) k p (nI j) l q = -1010 - z_fas (h 62 j) (h 61 j) l := by simp only [r_bg, z_tld, if_neg c_7, if_neg c_47, if_neg c_54, if_neg c_69, if_neg c_74, if_neg c_90, if_neg c_102, if_neg c_125, en, es, if_neg fz, if_true, if_neg o10]
                  have gn0 : ¬ r_bg h (nI n) k p (nI j) l q = 0 := by
                    rw [gn]
                    rcases fas_01 fz with y_ | y_ <;> rw [y_] <;> decide
                  refine ev_iload rfl rfl rfl ?_
                  refine ev_if_ne rfl rfl (fun c_147 => ?_) (fun z_ => absurd z_ fz)
                  refine ev_iload rfl rfl rfl ?_
                  refine ev_if_eq rfl rfl (fun z_ => absurd z_ fz) (fun c_164 => ?_)
                  refine ev_sipush (v := (-1010)) rfl rfl (by decide) ?_
                  refine ev_iload rfl rfl rfl ?_
                  refine ev_isub rfl rfl ?_
                  exact ev_iret rfl rfl rfl (⟨⟨_, rfl, fun _ => gn.symm, fun z_ => absurd z_ gn0⟩, rfl, JW.refl hB⟩)
              · refine ev_sipush (v := (-1002)) rfl rfl (by decide) ?_
                exact ev_iret rfl rfl rfl (⟨⟨_, rfl, fun _ => (by simp only [r_bg, z_tld, if_neg c_7, if_neg c_47, if_neg c_54, if_neg c_69, if_neg c_74, if_neg c_90, if_neg c_102, if_pos c_125, en, es, ite_self, if_true]), fun z_ => absurd z_ (by simp only [r_bg, z_tld, if_neg c_7, if_neg c_47, if_neg c_54, if_neg c_69, if_neg c_74, if_neg c_90, if_neg c_102, if_pos c_125, en, es, ite_self, if_true]; decide)⟩, rfl, JW.refl hB⟩)
            · refine ev_sipush (v := (-1000)) rfl rfl (by decide) ?_
              exact ev_iret rfl rfl rfl (⟨⟨_, rfl, fun _ => (by simp only [r_bg, z_tld, if_neg c_7, if_neg c_47, if_neg c_54, if_neg c_69, if_neg c_74, if_neg c_90, if_pos c_102, ite_self, if_true]), fun z_ => absurd z_ (by simp only [r_bg, z_tld, if_neg c_7, if_neg c_47, if_neg c_54, if_neg c_69, if_neg c_74, if_neg c_90, if_pos c_102, ite_self, if_true]; decide)⟩, rfl, JW.refl hB⟩)
  · refine ev_iload rfl rfl rfl ?_
    refine ev_bipush (v := 20) rfl rfl (by decide) ?_
    refine ev_icmp_lt rfl rfl (fun c_14 => ?_) (fun c_14 => ?_)
    · refine ev_iconst (v := 0) rfl rfl (by decide) ?_
      refine ev_istore rfl rfl rfl rfl ?_
      dsimp only [List.set]
      refine ev_aload_n rfl rfl rfl ?_
      refine ev_getR rfl rfl fl_X9_43 rfl rfl rfl rfl ?_
      refine ev_iload_n rfl rfl rfl ?_
      refine ev_V1D rfl rfl lk_X9_195 vt_X7_has rfl rfl rfl rfl rfl (c_X7_hasE L b h _) ?_
      refine ev_if_eq rfl rfl (fun c_47 => ?_) (fun c_47 => ?_)
      · refine ev_sipush (v := (-1000)) rfl rfl (by decide) ?_
        exact ev_iret rfl rfl rfl (⟨⟨_, rfl, fun _ => (by simp only [r_bg, z_tld, if_pos c_7, if_pos c_14, if_pos c_47, ite_self, if_true]), fun z_ => absurd z_ (by simp only [r_bg, z_tld, if_pos c_7, if_pos c_14, if_pos c_47, ite_self, if_true]; decide)⟩, rfl, JW.refl hB⟩)
      · refine ev_iload_n rfl rfl rfl ?_
        refine ev_S1D rfl rfl lk_X9_227 st_X9_isKey rfl rfl (c_isKey _ _ _) ?_
        refine ev_if_eq rfl rfl (fun c_54 => ?_) (fun c_54 => ?_)
        · refine ev_sipush (v := (-1000)) rfl rfl (by decide) ?_
          exact ev_iret rfl rfl rfl (⟨⟨_, rfl, fun _ => (by simp only [r_bg, z_tld, if_pos c_7, if_pos c_14, if_neg c_47, if_pos c_54, ite_self, if_true]), fun z_ => absurd z_ (by simp only [r_bg, z_tld, if_pos c_7, if_pos c_14, if_neg c_47, if_pos c_54, ite_self, if_true]; decide)⟩, rfl, JW.refl hB⟩)
        · refine ev_iload_n rfl rfl rfl ?_
          refine ev_iconst (v := 0) rfl rfl (by decide) ?_
          refine ev_aload_n rfl rfl rfl ?_
          refine ev_getR rfl rfl fl_X9_10 rfl rfl rfl rfl ?_
          refine ev_getI rfl rfl fl_X9_96 rfl rfl rfl ?_
          refine ev_S3D rfl rfl lk_X9_75 st_X9_isWithin rfl rfl (c_isWithin _ _ _ _ _) ?_
          refine ev_if_eq rfl rfl (fun c_69 => ?_) (fun c_69 => ?_)
          · refine ev_sipush (v := (-1000)) rfl rfl (by decide) ?_
            exact ev_iret rfl rfl rfl (⟨⟨_, rfl, fun _ => (by simp only [r_bg, z_tld, if_pos c_7, if_pos c_14, if_neg c_47, if_neg c_54, if_pos c_69, ite_self, if_true]), fun z_ => absurd z_ (by simp only [r_bg, z_tld, if_pos c_7, if_pos c_14, if_neg c_47, if_neg c_54, if_pos c_69, ite_self, if_true]; decide)⟩, rfl, JW.refl hB⟩)
          · refine ev_iload rfl rfl rfl ?_
            refine ev_if_ne rfl rfl (fun z_ => absurd (by decide) z_) (fun c_74 => ?_)
            refine ev_sipush (v := (-1000)) rfl rfl (by decide) ?_
            exact ev_iret rfl rfl rfl (⟨⟨_, rfl, fun _ => (by simp only [r_bg, z_tld, if_pos c_7, if_pos c_14, if_neg c_47, if_neg c_54, if_neg c_69, if_pos c_74, ite_self, if_true]), fun z_ => absurd z_ (by simp only [r_bg, z_tld, if_pos c_7, if_pos c_14, if_neg c_47, if_neg c_54, if_neg c_69, if_pos c_74, ite_self, if_true]; decide)⟩, rfl, JW.refl hB⟩)
    · refine ev_aload_n rfl rfl rfl ?_
      refine ev_getR rfl rfl fl_X9_22 rfl rfl rfl rfl ?_
      refine ev_iload rfl rfl rfl ?_
      refine ev_bipush (v := 20) rfl rfl (by decide) ?_
      refine ev_isub rfl rfl ?_
      refine ev_V1D rfl rfl lk_X9_126 vt_X8_has rfl rfl rfl rfl rfl (c_X8_has _ _ _ _) ?_
      refine ev_if_eq rfl rfl (fun c_29 => ?_) (fun c_29 => ?_)
      · refine ev_iconst (v := 0) rfl rfl (by decide) ?_
        refine ev_istore rfl rfl rfl rfl ?_
        dsimp only [List.set]
        refine ev_aload_n rfl rfl rfl ?_
        refine ev_getR rfl rfl fl_X9_43 rfl rfl rfl rfl ?_
        refine ev_iload_n rfl rfl rfl ?_
        refine ev_V1D rfl rfl lk_X9_195 vt_X7_has rfl rfl rfl rfl rfl (c_X7_hasE L b h _) ?_
        refine ev_if_eq rfl rfl (fun c_47 => ?_) (fun c_47 => ?_)
        · refine ev_sipush (v := (-1000)) rfl rfl (by decide) ?_
          exact ev_iret rfl rfl rfl (⟨⟨_, rfl, fun _ => (by simp only [r_bg, z_tld, if_pos c_7, if_neg c_14, if_pos c_29, if_pos c_47, ite_self, if_true]), fun z_ => absurd z_ (by simp only [r_bg, z_tld, if_pos c_7, if_neg c_14, if_pos c_29, if_pos c_47, ite_self, if_true]; decide)⟩, rfl, JW.refl hB⟩)
        · refine ev_iload_n rfl rfl rfl ?_
          refine ev_S1D rfl rfl lk_X9_227 st_X9_isKey rfl rfl (c_isKey _ _ _) ?_
          refine ev_if_eq rfl rfl (fun c_54 => ?_) (fun c_54 => ?_)
          · refine ev_sipush (v := (-1000)) rfl rfl (by decide) ?_
            exact ev_iret rfl rfl rfl (⟨⟨_, rfl, fun _ => (by simp only [r_bg, z_tld, if_pos c_7, if_neg c_14, if_pos c_29, if_neg c_47, if_pos c_54, ite_self, if_true]), fun z_ => absurd z_ (by simp only [r_bg, z_tld, if_pos c_7, if_neg c_14, if_pos c_29, if_neg c_47, if_pos c_54, ite_self, if_true]; decide)⟩, rfl, JW.refl hB⟩)
          · refine ev_iload_n rfl rfl rfl ?_
            refine ev_iconst (v := 0) rfl rfl (by decide) ?_
            refine ev_aload_n rfl rfl rfl ?_
            refine ev_getR rfl rfl fl_X9_10 rfl rfl rfl rfl ?_
            refine ev_getI rfl rfl fl_X9_96 rfl rfl rfl ?_
            refine ev_S3D rfl rfl lk_X9_75 st_X9_isWithin rfl rfl (c_isWithin _ _ _ _ _) ?_
            refine ev_if_eq rfl rfl (fun c_69 => ?_) (fun c_69 => ?_)
            · refine ev_sipush (v := (-1000)) rfl rfl (by decide) ?_
              exact ev_iret rfl rfl rfl (⟨⟨_, rfl, fun _ => (by simp only [r_bg, z_tld, if_pos c_7, if_neg c_14, if_pos c_29, if_neg c_47, if_neg c_54, if_pos c_69, ite_self, if_true]), fun z_ => absurd z_ (by simp only [r_bg, z_tld, if_pos c_7, if_neg c_14, if_pos c_29, if_neg c_47, if_neg c_54, if_pos c_69, ite_self, if_true]; decide)⟩, rfl, JW.refl hB⟩)
            · refine ev_iload rfl rfl rfl ?_
              refine ev_if_ne rfl rfl (fun z_ => absurd (by decide) z_) (fun c_74 => ?_)
              refine ev_sipush (v := (-1000)) rfl rfl (by decide) ?_
              exact ev_iret rfl rfl rfl (⟨⟨_, rfl, fun _ => (by simp only [r_bg, z_tld, if_pos c_7, if_neg c_14, if_pos c_29, if_neg c_47, if_neg c_54, if_neg c_69, if_pos c_74, ite_self, if_true]), fun z_ => absurd z_ (by simp only [r_bg, z_tld, if_pos c_7, if_neg c_14, if_pos c_29, if_neg c_47, if_neg c_54, if_neg c_69, if_pos c_74, ite_self, if_true]; decide)⟩, rfl, JW.refl hB⟩)
      · refine ev_iconst (v := 1) rfl rfl (by decide) ?_
        refine ev_goto rfl rfl ?_
        refine ev_istore rfl rfl rfl rfl ?_
        dsimp only [List.set]
        refine ev_aload_n rfl rfl rfl ?_
        refine ev_getR rfl rfl fl_X9_43 rfl rfl rfl rfl ?_
        refine ev_iload_n rfl rfl rfl ?_
        refine ev_V1D rfl rfl lk_X9_195 vt_X7_has rfl rfl rfl rfl rfl (c_X7_hasE L b h _) ?_
        refine ev_if_eq rfl rfl (fun c_47 => ?_) (fun c_47 => ?_)
        · refine ev_sipush (v := (-1000)) rfl rfl (by decide) ?_
          exact ev_iret rfl rfl rfl (⟨⟨_, rfl, fun _ => (by simp only [r_bg, z_tld, if_pos c_7, if_neg c_14, if_neg c_29, if_pos c_47, ite_self, if_true]), fun z_ => absurd z_ (by simp only [r_bg, z_tld, if_pos c_7, if_neg c_14, if_neg c_29, if_pos c_47, ite_self, if_true]; decide)⟩, rfl, JW.refl hB⟩)
        · refine ev_iload_n rfl rfl rfl ?_
          refine ev_S1D rfl rfl lk_X9_227 st_X9_isKey rfl rfl (c_isKey _ _ _) ?_
          refine ev_if_eq rfl rfl (fun c_54 => ?_) (fun c_54 => ?_)
          · refine ev_sipush (v := (-1000)) rfl rfl (by decide) ?_
            exact ev_iret rfl rfl rfl (⟨⟨_, rfl, fun _ => (by simp only [r_bg, z_tld, if_pos c_7, if_neg c_14, if_neg c_29, if_neg c_47, if_pos c_54, ite_self, if_true]), fun z_ => absurd z_ (by simp only [r_bg, z_tld, if_pos c_7, if_neg c_14, if_neg c_29, if_neg c_47, if_pos c_54, ite_self, if_true]; decide)⟩, rfl, JW.refl hB⟩)
          · refine ev_iload_n rfl rfl rfl ?_
            refine ev_iconst (v := 0) rfl rfl (by decide) ?_
            refine ev_aload_n rfl rfl rfl ?_
            refine ev_getR rfl rfl fl_X9_10 rfl rfl rfl rfl ?_
            refine ev_getI rfl rfl fl_X9_96 rfl rfl rfl ?_
            refine ev_S3D rfl rfl lk_X9_75 st_X9_isWithin rfl rfl (c_isWithin _ _ _ _ _) ?_
            refine ev_if_eq rfl rfl (fun c_69 => ?_) (fun c_69 => ?_)
            · refine ev_sipush (v := (-1000)) rfl rfl (by decide) ?_
              exact ev_iret rfl rfl rfl (⟨⟨_, rfl, fun _ => (by simp only [r_bg, z_tld, if_pos c_7, if_neg c_14, if_neg c_29, if_neg c_47, if_neg c_54, if_pos c_69, ite_self, if_true]), fun z_ => absurd z_ (by simp only [r_bg, z_tld, if_pos c_7, if_neg c_14, if_neg c_29, if_neg c_47, if_neg c_54, if_pos c_69, ite_self, if_true]; decide)⟩, rfl, JW.refl hB⟩)
            · refine ev_iload rfl rfl rfl ?_
              refine ev_if_ne rfl rfl (fun c_74 => ?_) (fun z_ => absurd z_ (by decide))
              refine ev_aload_n rfl rfl rfl ?_
              refine ev_getR rfl rfl fl_X9_71 rfl rfl rfl rfl ?_
              refine ev_iload rfl rfl rfl ?_
              refine ev_V1D rfl rfl lk_X9_255 vt_X5_has rfl rfl rfl rfl rfl (c_X5_has _ _ _ _) ?_
              refine ev_if_eq rfl rfl (fun c_90 => ?_) (fun c_90 => ?_)
              · refine ev_sipush (v := (-1000)) rfl rfl (by decide) ?_
                exact ev_iret rfl rfl rfl (⟨⟨_, rfl, fun _ => (by simp only [r_bg, z_tld, if_pos c_7, if_neg c_14, if_neg c_29, if_neg c_47, if_neg c_54, if_neg c_69, if_neg c_74, if_pos c_90, ite_self, if_true]), fun z_ => absurd z_ (by simp only [r_bg, z_tld, if_pos c_7, if_neg c_14, if_neg c_29, if_neg c_47, if_neg c_54, if_neg c_69, if_neg c_74, if_pos c_90, ite_self, if_true]; decide)⟩, rfl, JW.refl hB⟩)
              · refine ev_aload_n rfl rfl rfl ?_
                refine ev_getR rfl rfl fl_X9_71 rfl rfl rfl rfl ?_
                refine ev_iload rfl rfl rfl ?_
                refine ev_V1D rfl rfl lk_X9_256 vt_X5_isLane rfl rfl rfl rfl rfl (c_isLane _ _ _ _) ?_
                refine ev_if_ne rfl rfl (fun c_102 => ?_) (fun c_102 => ?_)
                · have pt : B t 0 5 := z_has_B5 hB c_47
                  obtain ⟨n, hn, rfl, en⟩ := B.nat6 pt
                  obtain ⟨j, hj, rfl⟩ := z_hask (x := 4) (m := 4) (N := 4) rfl (Nat.le_refl _) (by decide) c_90
                  have es := nI_clamp (show j < 2 ^ 31 by omega)
                  refine ev_aload_n rfl rfl rfl ?_
                  refine ev_getR rfl rfl fl_X9_43 rfl rfl rfl rfl ?_
                  refine ev_iload_n rfl rfl rfl ?_
                  refine ev_iload_n rfl rfl rfl ?_
                  refine ev_aload_n rfl rfl rfl ?_
                  refine ev_getR rfl rfl fl_X9_22 rfl rfl rfl rfl ?_
                  refine ev_getI rfl rfl fl_X9_158 rfl rfl rfl ?_
                  refine ev_V3D rfl rfl lk_X9_230 vt_X7_goes rfl rfl rfl rfl rfl (EvD.to (c_goes L b h n hn _ (B.nI (u := 24) (hB 36 n)).2 (B.nI (u := 24) (hB 36 n)).1 k (h 4 7)) (show _ = gsC h (nI n) k from by unfold gsC; rw [en]) rfl) ?_
                  refine ev_if_ne rfl rfl (fun c_125 => ?_) (fun c_125 => ?_)
                  · refine ev_aload_n rfl rfl rfl ?_
                    refine ev_getR rfl rfl fl_X9_71 rfl rfl rfl rfl ?_
                    refine ev_iload rfl rfl rfl ?_
                    refine ev_iload rfl rfl rfl ?_
                    refine ev_V2D rfl rfl lk_X9_259 vt_X5_faultAs rfl rfl rfl rfl rfl (c_faultAs L b h j hj l) ?_
                    refine ev_istore rfl rfl rfl rfl ?_
                    dsimp only [List.set]
                    have o10 : ¬ (1 : Int32) = 0 := by decide
                    have hq : B q 0 2 ∨ B q 20 31 := tld_q (show B (h 4 7) 0 12 from hB 4 7) (by unfold z_tld; rw [if_pos c_7, if_neg c_14]; exact c_29)
                    have bc : ∀ i, i < (h 36 n).toNatClampNeg → B (cB h n k i) 0 4095 := fun i hi => by
                      have g_ := c_125
                      unfold gsC at g_
                      rw [en] at g_
                      exact mv_B (hB.tun hn i) (s_or_B (hB.tun hn) _) (s_or_sub _ i hi) (z_wi_B (by decide : B (-11) (-11) (-11)) (by decide : B 11 11 11) c_54) (show B (h 4 7) 0 12 from hB 4 7) g_
                    by_cases fz : z_fas (h 62 j) (h 61 j) l = 0
                    · have g0 : r_bg h (nI n) k p (nI j) l q = 0 := by simp only [r_bg, z_tld, if_pos c_7, if_neg c_14, if_neg c_29, if_neg c_47, if_neg c_54, if_neg c_69, if_neg c_74, if_neg c_90, if_neg c_102, if_neg c_125, en, es, if_pos fz, if_true, if_neg o10]
                      refine ev_iload rfl rfl rfl ?_
                      refine ev_if_ne rfl rfl (fun z_ => absurd fz z_) (fun c_147 => ?_)
                      refine ev_aload_n rfl rfl rfl ?_
                      refine ev_iload_n rfl rfl rfl ?_
                      refine ev_iload_n rfl rfl rfl ?_
                      refine ev_iload rfl rfl rfl ?_
                      refine ev_iload rfl rfl rfl ?_
                      refine ev_V4I (JW.refl (W := [(45, 2), (45, 4), (45, 6), (45, 7), (46, 999), (47, 999), (48, 999), (49, 999)]) hB) rfl rfl rfl lk_X9_262 vt_X9_takeHeard rfl rfl rfl rfl rfl (c_th L b h hB n hn j hj k f _ (B.nI (u := 24) (hB 36 n)).2 (B.nI (u := 24) (hB 36 n)).1 bc) (fun r1 h1 q1 j1 k1 => ?_)
                      refine ev_istore rfl rfl rfl rfl ?_
                      dsimp only [List.set]
                      rcases q1 with ⟨e_, tb⟩ | ⟨e_, tb, g2, rows⟩
                      · subst e_
                        refine ev_iload rfl rfl rfl ?_
                        refine ev_if_eq rfl rfl (fun z_ => absurd z_ (by decide)) (fun c_164 => ?_)
                        refine ev_sipush (v := (-1010)) rfl rfl (by decide) ?_
                        refine ev_iload rfl rfl rfl ?_
                        refine ev_isub rfl rfl ?_
                        exact ev_iret rfl rfl rfl (⟨⟨_, rfl, fun z_ => absurd g0 z_, fun _ => ⟨fun _ => rfl, fun z_ => absurd (by unfold tB_; rw [en, es]; exact tb) z_⟩⟩, rfl, j1.widen rfl⟩)
                      · subst e_
                        refine ev_iload rfl rfl rfl ?_
                        refine ev_if_eq rfl rfl (fun c_164 => ?_) (fun z_ => absurd (by decide) z_)
                        refine ev_aload_n rfl rfl rfl ?_
                        refine ev_getR rfl rfl fl_X9_57 rfl rfl rfl rfl ?_
                        refine ev_aload_n rfl rfl rfl ?_
                        refine ev_getR rfl rfl fl_X9_10 rfl rfl rfl rfl ?_
                        refine ev_aload_n rfl rfl rfl ?_
                        refine ev_getR rfl rfl fl_X9_22 rfl rfl rfl rfl ?_
                        refine ev_iload_n rfl rfl rfl ?_
                        refine ev_V3I j1 rfl rfl rfl lk_X9_266 vt_X6_find rfl rfl rfl rfl rfl (c_find L b h1 j1.1 (h 36 n).toNatClampNeg (B.nI (u := 24) (hB 36 n)).2 g2 (cB h n k) (vB h n j k f) (fun i hi => (rows i hi).1) (fun i hi => (rows i hi).2) bc (nW h) (B.nI (u := 12) (hB 4 7)).2 ((k1.2 4 7 rfl).trans (B.nI (u := 12) (hB 4 7)).1) p) (fun r2 h2 q2 j2 k2 => ?_)
                        have ee : eX h1 (nW h) (h 36 n).toNatClampNeg (cB h n k) (vB h n j k f) p = (eX h (nW h) (h 36 n).toNatClampNeg (cB h n k) (vB h n j k f) p) := funext (fun u => by
                          have fx : xC h1 = xC h := funext (fun w => funext (fun p => funext (fun v => xC_cg (k1.2 5 w rfl) (k1.2 9 w rfl) (k1.2 7 w rfl) p v)))
                          have fd : ∀ lk, dN h1 (nW h) lk = dN h (nW h) lk := fun lk => funext (fun p => funext (fun c => by
                            unfold dN
                            rw [k1.2 2 3 rfl, k1.2 2 2 rfl, s_drawn_cg (fun k => k1.2 6 k rfl)]))
                          unfold eX
                          rw [fx, fd])
                        rw [ee] at q2
                        have eo : oC_ h (nI n) k p (nI j) f = fr (eX h (nW h) (h 36 n).toNatClampNeg (cB h n k) (vB h n j k f) p) (nW h + 1) := by unfold oC_; rw [en, es]
                        have nt : ¬ tB_ h (nI n) k (nI j) f := by unfold tB_; rw [en, es]; exact tb
                        cases hf : fr (eX h (nW h) (h 36 n).toNatClampNeg (cB h n k) (vB h n j k f) p) (nW h + 1) with
                        | none =>
                          have r0 := q2.1 hf
                          refine ev_if_eq rfl rfl (fun c_190 => ?_) (fun z_ => absurd r0 z_)
                          refine ev_sipush (v := (-1004)) rfl rfl (by decide) ?_
                          exact ev_iret rfl rfl rfl (⟨⟨_, rfl, fun z_ => absurd g0 z_, fun _ => ⟨fun z_ => absurd z_ nt, fun _ => ⟨fun _ => rfl, fun x_ e_ => by rw [eo, hf] at e_; cases e_⟩⟩⟩, rfl, j2⟩)
                        | some x =>
                          obtain ⟨r1_, x1, x2, x3⟩ := q2.2 x hf
                          refine ev_if_eq rfl rfl (fun z_ => absurd z_ (by rw [r1_]; decide)) (fun c_190 => ?_)
                          refine ev_aload_n rfl rfl rfl ?_
                          refine ev_getR rfl rfl fl_X9_57 rfl rfl rfl rfl ?_
                          refine ev_iload rfl rfl rfl ?_
                          refine ev_V1D rfl rfl lk_X9_270 vt_X6_answer rfl rfl rfl rfl rfl (EvD.to (c_ans L b h2 q hq) (show _ = bA x q from ans_b hq x1 x2 x3 (by have l1_ := fr_le _ _ hf; have l2_ := (B.nI (u := 12) (hB 4 7)).2; have e_ : (h 4 7).toNatClampNeg = nW h := rfl; omega)) rfl) ?_
                          refine ev_goto rfl rfl ?_
                          exact ev_iret rfl rfl rfl (⟨⟨_, rfl, fun z_ => absurd g0 z_, fun _ => ⟨fun z_ => absurd z_ nt, fun _ => ⟨fun z_ => (by rw [eo, hf] at z_; cases z_), fun x_ e_ => by rw [eo, hf] at e_; cases e_; rfl⟩⟩⟩, rfl, j2⟩)
                    · have gn : r_bg h (nI n) k p (nI j) l q = -1010 - z_fas (h 62 j) (h 61 j) l := by simp only [r_bg, z_tld, if_pos c_7, if_neg c_14, if_neg c_29, if_neg c_47, if_neg c_54, if_neg c_69, if_neg c_74, if_neg c_90, if_neg c_102, if_neg c_125, en, es, if_neg fz, if_true, if_neg o10]
                      have gn0 : ¬ r_bg h (nI n) k p (nI j) l q = 0 := by
                        rw [gn]
                        rcases fas_01 fz with y_ | y_ <;> rw [y_] <;> decide
                      refine ev_iload rfl rfl rfl ?_
                      refine ev_if_ne rfl rfl (fun c_147 => ?_) (fun z_ => absurd z_ fz)
                      refine ev_iload rfl rfl rfl ?_
                      refine ev_if_eq rfl rfl (fun z_ => absurd z_ fz) (fun c_164 => ?_)
                      refine ev_sipush (v := (-1010)) rfl rfl (by decide) ?_
                      refine ev_iload rfl rfl rfl ?_
                      refine ev_isub rfl rfl ?_
                      exact ev_iret rfl rfl rfl (⟨⟨_, rfl, fun _ => gn.symm, fun z_ => absurd z_ gn0⟩, rfl, JW.refl hB⟩)
                  · refine ev_sipush (v := (-1002)) rfl rfl (by decide) ?_
                    exact ev_iret rfl rfl rfl (⟨⟨_, rfl, fun _ => (by simp only [r_bg, z_tld, if_pos c_7, if_neg c_14, if_neg c_29, if_neg c_47, if_neg c_54, if_neg c_69, if_neg c_74, if_neg c_90, if_neg c_102, if_pos c_125, en, es, ite_self, if_true]), fun z_ => absurd z_ (by simp only [r_bg, z_tld, if_pos c_7, if_neg c_14, if_neg c_29, if_neg c_47, if_neg c_54, if_neg c_69, if_neg c_74, if_neg c_90, if_neg c_102, if_pos c_125, en, es, ite_self, if_true]; decide)⟩, rfl, JW.refl hB⟩)
                · refine ev_sipush (v := (-1000)) rfl rfl (by decide) ?_
                  exact ev_iret rfl rfl rfl (⟨⟨_, rfl, fun _ => (by simp only [r_bg, z_tld, if_pos c_7, if_neg c_14, if_neg c_29, if_neg c_47, if_neg c_54, if_neg c_69, if_neg c_74, if_neg c_90, if_pos c_102, ite_self, if_true]), fun z_ => absurd z_ (by simp only [r_bg, z_tld, if_pos c_7, if_neg c_14, if_neg c_29, if_neg c_47, if_neg c_54, if_neg c_69, if_neg c_74, if_neg c_90, if_pos c_102, ite_self, if_true]; decide)⟩, rfl, JW.refl hB⟩)

