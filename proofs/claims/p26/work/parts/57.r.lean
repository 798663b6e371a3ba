/-- the crack that a heard cell tells -/
def xC (h : Hp) (w : Nat) (p v : Int32) : Int32 := v - (h 5 w + h 9 w + o_bent h w p)
def r_ags (h : Hp) (w : Nat) (p v : Int32) : Int32 := if h 45 4 >>> (nI w &&& 31) &&& 1 = 0 then z_wi (xC h w p v) (-200) 200 else if h 48 w = xC h w p v then 1 else 0
def k_ags (h : Hp) (w : Nat) (p v : Int32) : Hp := if h 45 4 >>> (nI w &&& 31) &&& 1 = 0 then ev_set (ev_set h 45 4 (h 45 4 ||| 1 <<< (nI w &&& 31))) 48 w (xC h w p v) else h

set_option maxRecDepth 100000 in
set_option maxHeartbeats 4000000 in
theorem c_agrees (L : Nat) (b : Bool) (h : Hp) (w : Nat) (hw : w < 12) (p v : Int32) : EvD mi_X6_agrees [.ref 45, .ref 4, .int (nI w), .int p, .int v] (G0 L b) h (r_ags h w p v) (k_ags h w p v) := by
  refine EvD.of (lo := [some (.ref 45), some (.ref 4), some (.int (nI w)), some (.int p), some (.int v), none, none]) pf_X6_agrees ok_X6_agrees rfl rfl ?_
  refine ev_iload rfl rfl rfl ?_
  refine ev_aload_n rfl rfl rfl ?_
  refine ev_getR rfl rfl fl_X6_79 rfl rfl rfl rfl ?_
  refine ev_iload_n rfl rfl rfl ?_
  refine ev_iald rfl rfl rfl (vp_in_nI (by omega) (by decide)) (nI_clamp (by omega)) ?_
  refine ev_aload_n rfl rfl rfl ?_
  refine ev_getR rfl rfl fl_X6_82 rfl rfl rfl rfl ?_
  refine ev_iload_n rfl rfl rfl ?_
  refine ev_iald rfl rfl rfl (vp_in_nI (by omega) (by decide)) (nI_clamp (by omega)) ?_
  refine ev_iadd rfl rfl ?_
  refine ev_aload_n rfl rfl rfl ?_
  refine ev_iload_n rfl rfl rfl ?_
  refine ev_iload_n rfl rfl rfl ?_
  refine ev_V2D rfl rfl lk_X6_85 vt_X8_bentAt rfl rfl rfl rfl rfl (c_bentAt L b h w hw p) ?_
  refine ev_iadd rfl rfl ?_
  refine ev_isub rfl rfl ?_
  refine ev_istore rfl rfl rfl rfl ?_
  dsimp only [List.set]
  refine ev_aload_n rfl rfl rfl ?_
  refine ev_getI rfl rfl fl_X6_25 rfl rfl rfl ?_
  refine ev_iload_n rfl rfl rfl ?_
  refine ev_ishr rfl rfl ?_
  refine ev_iconst (v := 1) rfl rfl (by decide) ?_
  refine ev_iand rfl rfl ?_
  refine ev_if_eq rfl rfl (fun c_33 => ?_) (fun c_33 => ?_)
  · refine ev_iconst (v := 0) rfl rfl (by decide) ?_
    refine ev_istore rfl rfl rfl rfl ?_
    dsimp only [List.set]
    refine ev_iload rfl rfl rfl ?_
    refine ev_if_eq rfl rfl (fun c_45 => ?_) (fun z_ => absurd (by decide) z_)
    refine ev_aload_n rfl rfl rfl ?_
    refine ev_dup rfl rfl rfl ?_
    refine ev_getI rfl rfl fl_X6_25 rfl rfl rfl ?_
    refine ev_iconst (v := 1) rfl rfl (by decide) ?_
    refine ev_iload_n rfl rfl rfl ?_
    refine ev_ishl rfl rfl ?_
    refine ev_ior rfl rfl ?_
    refine ev_putI rfl rfl fl_X6_25 rfl rfl rfl rfl rfl ?_
    refine ev_aload_n rfl rfl rfl ?_
    refine ev_getR rfl rfl fl_X6_22 rfl rfl rfl rfl ?_
    refine ev_iload_n rfl rfl rfl ?_
    refine ev_iload rfl rfl rfl ?_
    refine ev_iast rfl rfl rfl rfl (vp_in_nI (by omega) (by decide)) (nI_clamp (by omega)) ?_
    refine ev_iload rfl rfl rfl ?_
    refine ev_sipush (v := (-200)) rfl rfl (by decide) ?_
    refine ev_sipush (v := 200) rfl rfl (by decide) ?_
    refine ev_SN3D rfl rfl lk_X6_88 st_X9_isWithin rfl rfl (c_isWithin _ _ _ _ _) ?_
    exact ev_iret rfl rfl (z_wi_b _ _ _) (⟨congrArg (fun z => some (Value.int z)) (show _ = r_ags h w p v from (if_pos c_33).symm), rfl, (if_pos c_33).symm⟩)
  · refine ev_iconst (v := 1) rfl rfl (by decide) ?_
    refine ev_goto rfl rfl ?_
    refine ev_istore rfl rfl rfl rfl ?_
    dsimp only [List.set]
    refine ev_iload rfl rfl rfl ?_
    refine ev_if_eq rfl rfl (fun z_ => absurd z_ (by decide)) (fun c_45 => ?_)
    refine ev_aload_n rfl rfl rfl ?_
    refine ev_getR rfl rfl fl_X6_22 rfl rfl rfl rfl ?_
    refine ev_iload_n rfl rfl rfl ?_
    refine ev_iald rfl rfl rfl (vp_in_nI (by omega) (by decide)) (nI_clamp (by omega)) ?_
    refine ev_iload rfl rfl rfl ?_
    refine ev_icmp_ne rfl rfl (fun c_56 => ?_) (fun c_56 => ?_)
    · refine ev_iconst (v := 0) rfl rfl (by decide) ?_
      exact ev_iret rfl rfl rfl (⟨congrArg (fun z => some (Value.int z)) (show _ = r_ags h w p v from ((if_neg c_33).trans (if_neg c_56)).symm), rfl, (if_neg c_33).symm⟩)
    · refine ev_iconst (v := 1) rfl rfl (by decide) ?_
      refine ev_goto rfl rfl ?_
      exact ev_iret rfl rfl rfl (⟨congrArg (fun z => some (Value.int z)) (show _ = r_ags h w p v from ((if_neg c_33).trans (if_pos c_56)).symm), rfl, (if_neg c_33).symm⟩)

/-- a chord's lowest whistle -/
def lw (c : Int32) : Nat := (z_ls c).toNatClampNeg
theorem lw_of {c : Int32} (h : B c 0 4095) (h0 : ¬ c = 0) : z_ls c = nI (lw c) ∧ lw c < 12 := by
  obtain ⟨l, g, hl, hg, el, -⟩ := gs_of h h0
  unfold lw
  rw [el, nI_clamp (show l < 2 ^ 31 by omega)]
  exact ⟨rfl, hl⟩
/-- what was heard, from beat i on: known cracks, their numbers -/
def xs (c v : Nat → Int32) (X : Nat → Int32 → Int32 → Int32) (N : Int32 → Int32 → Int32) : Nat → Nat → Int32 → (Nat → Bool) → (Nat → Int32) → Option (Nat → Int32)
  | 0, _, _, _, tr => some tr
  | t + 1, i, p, kn, tr => if c i = 0 then xs c v X N t (i + 1) (N p (c i)) kn tr else if v i = -32768 then xs c v X N t (i + 1) (N p (c i)) kn tr else if kn (lw (c i)) = true then (if tr (lw (c i)) = X (lw (c i)) p (v i) then xs c v X N t (i + 1) (N p (c i)) kn tr else none) else if z_wi (X (lw (c i)) p (v i)) (-200) 200 = 0 then none else xs c v X N t (i + 1) (N p (c i)) (fun w => if w = lw (c i) then true else kn w) (fun w => if w = lw (c i) then X (lw (c i)) p (v i) else tr w)
section XS
variable {c v : Nat → Int32} {X : Nat → Int32 → Int32 → Int32} {N : Int32 → Int32 → Int32} {t i : Nat} {p : Int32} {kn : Nat → Bool} {tr : Nat → Int32}
theorem xs_s1 (h : c i = 0) : xs c v X N (t + 1) i p kn tr = xs c v X N t (i + 1) (N p (c i)) kn tr := if_pos h
theorem xs_s2 (h0 : ¬ c i = 0) (h : v i = -32768) : xs c v X N (t + 1) i p kn tr = xs c v X N t (i + 1) (N p (c i)) kn tr := (if_neg h0).trans (if_pos h)
theorem xs_s3 (h0 : ¬ c i = 0) (h1 : ¬ v i = -32768) (hk : kn (lw (c i)) = true) (he : tr (lw (c i)) = X (lw (c i)) p (v i)) : xs c v X N (t + 1) i p kn tr = xs c v X N t (i + 1) (N p (c i)) kn tr := (if_neg h0).trans ((if_neg h1).trans ((if_pos hk).trans (if_pos he)))
theorem xs_n3 (h0 : ¬ c i = 0) (h1 : ¬ v i = -32768) (hk : kn (lw (c i)) = true) (he : ¬ tr (lw (c i)) = X (lw (c i)) p (v i)) : xs c v X N (t + 1) i p kn tr = none := (if_neg h0).trans ((if_neg h1).trans ((if_pos hk).trans (if_neg he)))
theorem xs_s4 (h0 : ¬ c i = 0) (h1 : ¬ v i = -32768) (hk : kn (lw (c i)) = false) (hz : ¬ z_wi (X (lw (c i)) p (v i)) (-200) 200 = 0) : xs c v X N (t + 1) i p kn tr = xs c v X N t (i + 1) (N p (c i)) (fun w => if w = lw (c i) then true else kn w) (fun w => if w = lw (c i) then X (lw (c i)) p (v i) else tr w) := (if_neg h0).trans ((if_neg h1).trans ((if_neg (by rw [hk]; decide)).trans (if_neg hz)))
theorem xs_n4 (h0 : ¬ c i = 0) (h1 : ¬ v i = -32768) (hk : kn (lw (c i)) = false) (hz : z_wi (X (lw (c i)) p (v i)) (-200) 200 = 0) : xs c v X N (t + 1) i p kn tr = none := (if_neg h0).trans ((if_neg h1).trans ((if_neg (by rw [hk]; decide)).trans (if_pos hz)))
end XS
def XP (o : Option (Nat → Int32)) (r : Int32) (z : Nat → Int32) : Prop := (o = none → r = 0) ∧ ∀ tr, o = some tr → r = 1 ∧ ∀ w, w < 12 → z w = tr w
theorem XP.no {o : Option (Nat → Int32)} {z : Nat → Int32} (e : o = none) : XP o 0 z := ⟨fun _ => rfl, fun tr h => by rw [e] at h; cases h⟩
theorem XP.yes {z tr : Nat → Int32} (e : ∀ w, w < 12 → z w = tr w) : XP (some tr) 1 z := ⟨fun h => (by cases h), fun t h => by cases h; exact ⟨rfl, e⟩⟩
def KN (k : Int32) (kn : Nat → Bool) : Prop := ∀ w, w < 12 → k >>> (nI w &&& 31) &&& 1 = if kn w then 1 else 0
theorem KN.put {k : Int32} {kn : Nat → Bool} (h : KN k kn) {w : Nat} (hw : w < 12) : KN (k ||| 1 <<< (nI w &&& 31)) (fun u => if u = w then true else kn u) := fun u hu => by
  rw [or_bit k hw hu]
  by_cases e : u = w
  · rw [if_pos e]
    simp only [e, if_true]
  · rw [if_neg e, h u hu]
    simp only [if_neg e]
def dN (h : Hp) (m : Nat) (lk p c : Int32) : Int32 := z_min (h 2 3) (z_max 0 (p + 2 * h 2 2 - s_drawn h c lk m))
theorem nI_ne1 {j : Nat} (hj : j < 12) : ¬ nI j = -1 := fun z => by
  have y := congrArg Int32.toInt z
  have e : (-1 : Int32).toInt = -1 := by decide
  rw [nI_toInt (by omega), e] at y
  omega
theorem xC_cg {h H : Hp} {w : Nat} (e5 : H 5 w = h 5 w) (e9 : H 9 w = h 9 w) (e7 : H 7 w = h 7 w) (p v : Int32) : xC H w p v = xC h w p v := by
  unfold xC o_bent
  rw [e5, e9, e7]

set_option maxRecDepth 100000 in
set_option maxHeartbeats 4000000 in
theorem x_tail (L : Nat) (b : Bool) (h : Hp) (M : Nat) (hM : M ≤ 24) (e2 : h 45 2 = nI M) (c v : Nat → Int32) (ec : ∀ i, i < M → h 46 i = c i) (ev : ∀ i, i < M → h 47 i = v i) (bc : ∀ i, i < M → B (c i) 0 4095) (m : Nat) (hm0 : m ≤ 12) (hm : h 4 7 = nI m) (p0 kk lk : Int32) (H : Hp) (hJ : JW [(45, 4), (48, 999)] h H) (i : Nat) (hi : i < M) (p : Int32) (Q : Pst) (kq : EvQ mi_X6_explains 35 [some (.ref 45), some (.ref 2), some (.ref 4), some (.int p0), some (.int kk), some (.int lk), some (.int (dN h m lk p (c i))), some (.int (nI (i + 1)))] [] (G0 L b) H 0 0 Q) : EvQ mi_X6_explains 96 [some (.ref 45), some (.ref 2), some (.ref 4), some (.int p0), some (.int kk), some (.int lk), some (.int p), some (.int (nI i))] [] (G0 L b) H 0 0 Q := by
  have e46 : H 46 i = c i := (hJ.2 46 i rfl).trans (ec i hi)
  refine ev_aload_n rfl rfl rfl ?_
  refine ev_iload rfl rfl rfl ?_
  refine ev_aload_n rfl rfl rfl ?_
  refine ev_aload_n rfl rfl rfl ?_
  refine ev_getR rfl rfl fl_X6_9 rfl rfl rfl rfl ?_
  refine ev_iload rfl rfl rfl ?_
  refine ev_iald rfl rfl rfl (vp_in_nI (by omega) (by decide)) (nI_clamp (by omega)) ?_
  try simp only [e46]
  refine ev_iload rfl rfl rfl ?_
  refine ev_V2D rfl rfl lk_X6_70 vt_X8_drawnBy rfl rfl rfl rfl rfl (EvD.to (c_drawnBy L b H m hm0 ((hJ.2 4 7 rfl).trans hm) (c i) lk) (s_drawn_cg (fun k => hJ.2 6 k rfl) _ _ _) rfl) ?_
  refine ev_V2D rfl rfl lk_X6_74 vt_X1_after rfl rfl rfl rfl rfl (EvD.to (c_after _ H 2 rfl rfl p _) (show _ = dN h m lk p (c i) from by unfold dN; rw [hJ.2 2 3 rfl, hJ.2 2 2 rfl]) rfl) ?_
  refine ev_istore rfl rfl rfl rfl ?_
  dsimp only [List.set]
  refine ev_iinc (y := 1) rfl rfl rfl (by decide) rfl rfl ?_
  dsimp only [List.set]
  refine ev_goto rfl rfl ?_
  rw [nI_1 i]
  exact kq

set_option maxRecDepth 100000 in
set_option maxHeartbeats 4000000 in
theorem l_expl (L : Nat) (b : Bool) (h : Hp) (M : Nat) (hM : M ≤ 24) (e2 : h 45 2 = nI M) (c v : Nat → Int32) (ec : ∀ i, i < M → h 46 i = c i) (ev : ∀ i, i < M → h 47 i = v i) (bc : ∀ i, i < M → B (c i) 0 4095) (m : Nat) (hm0 : m ≤ 12) (hm : h 4 7 = nI m) (p0 kk lk : Int32)  : ∀ (t i : Nat) (p : Int32) (kn : Nat → Bool) (tr : Nat → Int32) (H : Hp), i + t = M → JW [(45, 4), (48, 999)] h H → KN (H 45 4) kn → (∀ w, w < 12 → H 48 w = tr w) → EvQ mi_X6_explains 35 [some (.ref 45), some (.ref 2), some (.ref 4), some (.int p0), some (.int kk), some (.int lk), some (.int p), some (.int (nI i))] [] (G0 L b) H 0 0 (QI (fun r z => XP (xs c v (xC h) (dN h m lk) t i p kn tr) r (z 48)) [(45, 4), (48, 999)] (G0 L b) h) := by
  intro t
  induction t with
  | zero =>
    intro i p kn tr H hi hJ hK e48
    have e452 : H 45 2 = nI i := (hJ.2 45 2 rfl).trans (by rw [e2]; congr 1; omega)
    refine ev_iload rfl rfl rfl ?_
    refine ev_aload_n rfl rfl rfl ?_
    refine ev_getI rfl rfl fl_X6_18 rfl rfl rfl ?_
    try simp only [e452]
    refine ev_icmp_ge rfl rfl (fun c_41 => ?_) (fun z_ => absurd (Int32.le_refl _) z_)
    refine ev_iconst (v := 1) rfl rfl (by decide) ?_
    exact ev_iret rfl rfl rfl (⟨⟨_, rfl, XP.yes e48⟩, rfl, hJ⟩)
  | succ t ih =>
    intro i p kn tr H hi hJ hK e48
    have e452 : H 45 2 = nI M := (hJ.2 45 2 rfl).trans e2
    have e46 : H 46 i = c i := (hJ.2 46 i rfl).trans (ec i (by omega))
    have e47 : H 47 i = v i := (hJ.2 47 i rfl).trans (ev i (by omega))
    refine ev_iload rfl rfl rfl ?_
    refine ev_aload_n rfl rfl rfl ?_
    refine ev_getI rfl rfl fl_X6_18 rfl rfl rfl ?_
    try simp only [e452, e46, e47]
    refine ev_icmp_ge rfl rfl (fun z_ => absurd z_ (nI_ge (by omega) (by omega))) (fun c_41 => ?_)
    refine ev_aload_n rfl rfl rfl ?_
    refine ev_getR rfl rfl fl_X6_9 rfl rfl rfl rfl ?_
    refine ev_iload rfl rfl rfl ?_
    refine ev_iald rfl rfl rfl (vp_in_nI (by omega) (by decide)) (nI_clamp (by omega)) ?_
    try simp only [e452, e46, e47]
    refine ev_if_eq rfl rfl (fun c_51 => ?_) (fun c_51 => ?_)
    · rw [xs_s1 c_51]
      exact x_tail L b h M hM e2 c v ec ev bc m hm0 hm p0 kk lk H hJ i (by omega) p _ (ih (i + 1) _ kn tr H (by omega) hJ hK e48)
    · refine ev_aload_n rfl rfl rfl ?_
      refine ev_getR rfl rfl fl_X6_15 rfl rfl rfl rfl ?_
      refine ev_iload rfl rfl rfl ?_
      refine ev_iald rfl rfl rfl (vp_in_nI (by omega) (by decide)) (nI_clamp (by omega)) ?_
      try simp only [e452, e46, e47]
      refine ev_sipush (v := (-32768)) rfl rfl (by decide) ?_
      refine ev_icmp_eq rfl rfl (fun c_64 => ?_) (fun c_64 => ?_)
      · rw [xs_s2 c_51 c_64]
        exact x_tail L b h M hM e2 c v ec ev bc m hm0 hm p0 kk lk H hJ i (by omega) p _ (ih (i + 1) _ kn tr H (by omega) hJ hK e48)
      · obtain ⟨el, hl⟩ := lw_of (bc i (by omega)) c_51
        have xe : xC H (lw (c i)) p (v i) = xC h (lw (c i)) p (v i) := xC_cg (hJ.2 5 _ rfl) (hJ.2 9 _ rfl) (hJ.2 7 _ rfl) _ _
        have hb := hK (lw (c i)) hl
        cases hk : kn (lw (c i)) with
        | true =>
          rw [hk, if_pos rfl] at hb
          have nb : ¬ H 45 4 >>> (nI (lw (c i)) &&& 31) &&& 1 = 0 := by rw [hb]; decide
          have ra1 : r_ags H (lw (c i)) p (v i) = (if tr (lw (c i)) = xC h (lw (c i)) p (v i) then 1 else 0) := by unfold r_ags; rw [if_neg nb, e48 _ hl, xe]
          have ka1 : k_ags H (lw (c i)) p (v i) = H := if_neg nb
          refine ev_aload_n rfl rfl rfl ?_
          refine ev_aload_n rfl rfl rfl ?_
          refine ev_aload_n rfl rfl rfl ?_
          refine ev_getR rfl rfl fl_X6_9 rfl rfl rfl rfl ?_
          refine ev_iload rfl rfl rfl ?_
          refine ev_iald rfl rfl rfl (vp_in_nI (by omega) (by decide)) (nI_clamp (by omega)) ?_
          try simp only [e452, e46, e47]
          refine ev_SN1D rfl rfl lk_X6_62 st_X9_leastOf rfl rfl (c_leastOf _ _ _) ?_
          rw [el]
          refine ev_iload rfl rfl rfl ?_
          refine ev_aload_n rfl rfl rfl ?_
          refine ev_getR rfl rfl fl_X6_15 rfl rfl rfl rfl ?_
          refine ev_iload rfl rfl rfl ?_
          refine ev_iald rfl rfl rfl (vp_in_nI (by omega) (by decide)) (nI_clamp (by omega)) ?_
          try simp only [e452, e46, e47]
          refine ev_V4D rfl rfl lk_X6_66 vt_X6_agrees rfl rfl rfl rfl rfl (EvD.to (c_agrees L b H (lw (c i)) hl p (v i)) ra1 ka1) ?_
          refine ev_if_ne rfl rfl (fun c_91 => ?_) (fun c_91 => ?_)
          · have he : tr (lw (c i)) = xC h (lw (c i)) p (v i) := Decidable.byContradiction (fun z => c_91 (if_neg z))
            rw [xs_s3 c_51 c_64 hk he]
            exact x_tail L b h M hM e2 c v ec ev bc m hm0 hm p0 kk lk H hJ i (by omega) p _ (ih (i + 1) _ kn tr H (by omega) hJ hK e48)
          · refine ev_iconst (v := 0) rfl rfl (by decide) ?_
            exact ev_iret rfl rfl rfl (⟨⟨_, rfl, XP.no (xs_n3 c_51 c_64 hk (fun z => absurd c_91 (by rw [if_pos z]; decide)))⟩, rfl, hJ⟩)
        | false =>
          rw [hk] at hb
          have nb : H 45 4 >>> (nI (lw (c i)) &&& 31) &&& 1 = 0 := hb
          have ra0 : r_ags H (lw (c i)) p (v i) = z_wi (xC h (lw (c i)) p (v i)) (-200) 200 := by unfold r_ags; rw [if_pos nb, xe]
          have ka0 : k_ags H (lw (c i)) p (v i) = (ev_set (ev_set H 45 4 (H 45 4 ||| 1 <<< (nI (lw (c i)) &&& 31))) 48 (lw (c i)) (xC h (lw (c i)) p (v i))) := by unfold k_ags; rw [if_pos nb, xe]
          have hJ2 : JW [(45, 4), (48, 999)] h (ev_set (ev_set H 45 4 (H 45 4 ||| 1 <<< (nI (lw (c i)) &&& 31))) 48 (lw (c i)) (xC h (lw (c i)) p (v i))) := (hJ.set rfl (B.any _)).set rfl (B.any _)
          have hK2 : KN ((ev_set (ev_set H 45 4 (H 45 4 ||| 1 <<< (nI (lw (c i)) &&& 31))) 48 (lw (c i)) (xC h (lw (c i)) p (v i))) 45 4) (fun w => if w = lw (c i) then true else kn w) := by rw [ev_rd2 (by decide), ev_rd1]; exact hK.put hl
          have e482 : ∀ w, w < 12 → (ev_set (ev_set H 45 4 (H 45 4 ||| 1 <<< (nI (lw (c i)) &&& 31))) 48 (lw (c i)) (xC h (lw (c i)) p (v i))) 48 w = (fun w => if w = lw (c i) then xC h (lw (c i)) p (v i) else tr w) w := fun w hw => by
            rw [ev_sj]
            by_cases e : w = lw (c i)
            · simp only [e, if_true]
            · simp only [if_neg e]; rw [ev_rd2 (by decide)]; exact e48 w hw
          refine ev_aload_n rfl rfl rfl ?_
          refine ev_aload_n rfl rfl rfl ?_
          refine ev_aload_n rfl rfl rfl ?_
          refine ev_getR rfl rfl fl_X6_9 rfl rfl rfl rfl ?_
          refine ev_iload rfl rfl rfl ?_
          refine ev_iald rfl rfl rfl (vp_in_nI (by omega) (by decide)) (nI_clamp (by omega)) ?_
          try simp only [e452, e46, e47]
          refine ev_SN1D rfl rfl lk_X6_62 st_X9_leastOf rfl rfl (c_leastOf _ _ _) ?_
          rw [el]
          refine ev_iload rfl rfl rfl ?_
          refine ev_aload_n rfl rfl rfl ?_
          refine ev_getR rfl rfl fl_X6_15 rfl rfl rfl rfl ?_
          refine ev_iload rfl rfl rfl ?_
          refine ev_iald rfl rfl rfl (vp_in_nI (by omega) (by decide)) (nI_clamp (by omega)) ?_
          try simp only [e452, e46, e47]
          refine ev_V4D rfl rfl lk_X6_66 vt_X6_agrees rfl rfl rfl rfl rfl (EvD.to (c_agrees L b H (lw (c i)) hl p (v i)) ra0 ka0) ?_
          refine ev_if_ne rfl rfl (fun c_91 => ?_) (fun c_91 => ?_)
          · rw [xs_s4 c_51 c_64 hk c_91]
            exact x_tail L b h M hM e2 c v ec ev bc m hm0 hm p0 kk lk _ hJ2 i (by omega) p _ (ih (i + 1) _ _ _ _ (by omega) hJ2 hK2 e482)
          · refine ev_iconst (v := 0) rfl rfl (by decide) ?_
            exact ev_iret rfl rfl rfl (⟨⟨_, rfl, XP.no (xs_n4 c_51 c_64 hk c_91)⟩, rfl, hJ2⟩)

set_option maxRecDepth 100000 in
set_option maxHeartbeats 4000000 in
theorem c_expl0 (L : Nat) (b : Bool) (h : Hp) (hB : Bx h) (M : Nat) (hM : M ≤ 24) (e2 : h 45 2 = nI M) (c v : Nat → Int32) (ec : ∀ i, i < M → h 46 i = c i) (ev : ∀ i, i < M → h 47 i = v i) (bc : ∀ i, i < M → B (c i) 0 4095) (m : Nat) (hm0 : m ≤ 12) (hm : h 4 7 = nI m) (p : Int32)  : EvI mi_X6_explains [.ref 45, .ref 2, .ref 4, .int p, .int (-1)] (G0 L b) h (fun r z => XP (xs c v (xC h) (dN h m 0) M 0 p (fun _ => false) (fun _ => 0)) r (z 48)) [(45, 4), (48, 999)] := by
  refine EvM.of2 (lo := [some (.ref 45), some (.ref 2), some (.ref 4), some (.int p), some (.int (-1)), none, none, none]) pf_X6_explains ok_X6_explains rfl rfl ?_
  refine ev_aload_n rfl rfl rfl ?_
  refine ev_getR rfl rfl fl_X6_22 rfl rfl rfl rfl ?_
  refine ev_iconst (v := 0) rfl rfl (by decide) ?_
  refine ev_S2U rfl rfl lk_X6_56 st_J7_fill_53178 rfl rfl (c_fill _ _ _ _ 12 (by decide) rfl rfl) ?_
  refine ev_aload_n rfl rfl rfl ?_
  refine ev_iconst (v := 0) rfl rfl (by decide) ?_
  refine ev_putI rfl rfl fl_X6_25 rfl rfl rfl rfl rfl ?_
  refine ev_iload rfl rfl rfl ?_
  refine ev_iconst (v := (-1)) rfl rfl (by decide) ?_
  refine ev_icmp_ne rfl rfl (fun z_ => absurd (by decide) z_) (fun c_16 => ?_)
  refine ev_iconst (v := 0) rfl rfl (by decide) ?_
  refine ev_goto rfl rfl ?_
  refine ev_istore rfl rfl rfl rfl ?_
  dsimp only [List.set]
  refine ev_iload_n rfl rfl rfl ?_
  refine ev_istore rfl rfl rfl rfl ?_
  dsimp only [List.set]
  refine ev_iconst (v := 0) rfl rfl (by decide) ?_
  refine ev_istore rfl rfl rfl rfl ?_
  dsimp only [List.set]
  have hJ0 : JW [(45, 4), (48, 999)] h (ev_set (h_fl h 48 0 12) 45 4 0) := by
    refine JW.set ⟨fun i j => ?_, fun i j q => ?_⟩ rfl (B.any _)
    · by_cases e : i = 48
      · subst e; exact B.any _
      · rw [h_fl_ne e]; exact hB i j
    · by_cases e : i = 48
      · subst e; cases q
      · exact h_fl_ne e
  exact l_expl L b h M hM e2 c v ec ev bc m hm0 hm p (-1) 0 M 0 p (fun _ => false) (fun _ => 0) _ (by omega) hJ0 (fun w hw => by rw [ev_rd1]; exact bit0 w hw) (fun w hw => by rw [ev_rd2 (by decide)]; exact if_pos ⟨rfl, hw⟩)

set_option maxRecDepth 100000 in
set_option maxHeartbeats 4000000 in
theorem c_expl1 (L : Nat) (b : Bool) (h : Hp) (hB : Bx h) (M : Nat) (hM : M ≤ 24) (e2 : h 45 2 = nI M) (c v : Nat → Int32) (ec : ∀ i, i < M → h 46 i = c i) (ev : ∀ i, i < M → h 47 i = v i) (bc : ∀ i, i < M → B (c i) 0 4095) (m : Nat) (hm0 : m ≤ 12) (hm : h 4 7 = nI m) (p : Int32) (j : Nat) (hj : j < 12)  : EvI mi_X6_explains [.ref 45, .ref 2, .ref 4, .int p, .int (nI j)] (G0 L b) h (fun r z => XP (xs c v (xC h) (dN h m (1 <<< (nI j &&& 31))) M 0 p (fun _ => false) (fun _ => 0)) r (z 48)) [(45, 4), (48, 999)] := by
  refine EvM.of2 (lo := [some (.ref 45), some (.ref 2), some (.ref 4), some (.int p), some (.int (nI j)), none, none, none]) pf_X6_explains ok_X6_explains rfl rfl ?_
  refine ev_aload_n rfl rfl rfl ?_
  refine ev_getR rfl rfl fl_X6_22 rfl rfl rfl rfl ?_
  refine ev_iconst (v := 0) rfl rfl (by decide) ?_
  refine ev_S2U rfl rfl lk_X6_56 st_J7_fill_53178 rfl rfl (c_fill _ _ _ _ 12 (by decide) rfl rfl) ?_
  refine ev_aload_n rfl rfl rfl ?_
  refine ev_iconst (v := 0) rfl rfl (by decide) ?_
  refine ev_putI rfl rfl fl_X6_25 rfl rfl rfl rfl rfl ?_
  refine ev_iload rfl rfl rfl ?_
  refine ev_iconst (v := (-1)) rfl rfl (by decide) ?_
  refine ev_icmp_ne rfl rfl (fun c_16 => ?_) (fun z_ => absurd z_ (nI_ne1 (by omega)))
  refine ev_iconst (v := 1) rfl rfl (by decide) ?_
  refine ev_iload rfl rfl rfl ?_
  refine ev_ishl rfl rfl ?_
  refine ev_istore rfl rfl rfl rfl ?_
  dsimp only [List.set]
  refine ev_iload_n rfl rfl rfl ?_
  refine ev_istore rfl rfl rfl rfl ?_
  dsimp only [List.set]
  refine ev_iconst (v := 0) rfl rfl (by decide) ?_
  refine ev_istore rfl rfl rfl rfl ?_
  dsimp only [List.set]
  have hJ0 : JW [(45, 4), (48, 999)] h (ev_set (h_fl h 48 0 12) 45 4 0) := by
    refine JW.set ⟨fun i j => ?_, fun i j q => ?_⟩ rfl (B.any _)
    · by_cases e : i = 48
      · subst e; exact B.any _
      · rw [h_fl_ne e]; exact hB i j
    · by_cases e : i = 48
      · subst e; cases q
      · exact h_fl_ne e
  exact l_expl L b h M hM e2 c v ec ev bc m hm0 hm p (nI j) (1 <<< (nI j &&& 31)) M 0 p (fun _ => false) (fun _ => 0) _ (by omega) hJ0 (fun w hw => by rw [ev_rd1]; exact bit0 w hw) (fun w hw => by rw [ev_rd2 (by decide)]; exact if_pos ⟨rfl, hw⟩)

def s_ct (f : Nat → Int32) : Nat → Int32
  | 0 => 0
  | k + 1 => if f k = 0 then s_ct f k + 0 else s_ct f k + 1
def s_cb (f : Nat → Int32) : Nat → Int32
  | 0 => 0
  | k + 1 => if f k = 0 then s_cb f k ||| 0 else s_cb f k ||| 1 <<< (nI k &&& 31)
theorem s_ct_cg {f g : Nat → Int32} : ∀ n, (∀ w, w < n → f w = g w) → s_ct f n = s_ct g n
  | 0, _ => rfl
  | n + 1, e => by unfold s_ct; rw [e n (by omega), s_ct_cg n (fun w hw => e w (by omega))]
theorem s_cb_cg {f g : Nat → Int32} : ∀ n, (∀ w, w < n → f w = g w) → s_cb f n = s_cb g n
  | 0, _ => rfl
  | n + 1, e => by unfold s_cb; rw [e n (by omega), s_cb_cg n (fun w hw => e w (by omega))]

set_option maxRecDepth 100000 in
set_option maxHeartbeats 4000000 in
theorem l_tcr (L : Nat) (b : Bool) (h : Hp) (N : Nat) (hN : N = 12)  : ∀ t i : Nat, i + t = N → EvQ mi_X6_triedCracks 4 [some (.ref 45), some (.int (s_ct (h 48) i)), some (.int (nI i))] [] (G0 L b) h 0 0 (fun v G' h' => v = some (.int (s_ct (h 48) N)) ∧ G' = G0 L b ∧ h' = h) := by
  intro t
  induction t with
  | zero =>
    intro i hi
    have hi2 : i = N := by omega
    subst hi2
    refine ev_iload_n rfl rfl rfl ?_
    refine ev_bipush (v := 12) rfl rfl (by decide) ?_
    refine ev_icmp_ge rfl rfl (fun c_7 => ?_) (fun z_ => absurd (by rw [hN]; decide) z_)
    refine ev_iload_n rfl rfl rfl ?_
    exact ev_iret rfl rfl rfl (⟨rfl, rfl, rfl⟩)
  | succ t ih =>
    intro i hi
    refine ev_iload_n rfl rfl rfl ?_
    refine ev_bipush (v := 12) rfl rfl (by decide) ?_
    refine ev_icmp_ge rfl rfl (fun z_ => absurd z_ (show ¬ nI 12 ≤ nI i from nI_ge (by omega) (by omega))) (fun c_7 => ?_)
    refine ev_iload_n rfl rfl rfl ?_
    refine ev_aload_n rfl rfl rfl ?_
    refine ev_getR rfl rfl fl_X6_22 rfl rfl rfl rfl ?_
    refine ev_iload_n rfl rfl rfl ?_
    refine ev_iald rfl rfl rfl (vp_in_nI (by omega) (by decide)) (nI_clamp (by omega)) ?_
    refine ev_if_eq rfl rfl (fun c_17 => ?_) (fun c_17 => ?_)
    · refine ev_iconst (v := 0) rfl rfl (by decide) ?_
      refine ev_iadd rfl rfl ?_
      refine ev_istore_n rfl rfl rfl rfl ?_
      dsimp only [List.set]
      refine ev_iinc (y := 1) rfl rfl rfl (by decide) rfl rfl ?_
      dsimp only [List.set]
      refine ev_goto rfl rfl ?_
      have z_ := ih (i + 1) (by omega)
      simp only [s_ct, if_neg c_7, if_pos c_17] at z_
      rw [nI_1 i]
      exact z_
    · refine ev_iconst (v := 1) rfl rfl (by decide) ?_
      refine ev_goto rfl rfl ?_
      refine ev_iadd rfl rfl ?_
      refine ev_istore_n rfl rfl rfl rfl ?_
      dsimp only [List.set]
      refine ev_iinc (y := 1) rfl rfl rfl (by decide) rfl rfl ?_
      dsimp only [List.set]
      refine ev_goto rfl rfl ?_
      have z_ := ih (i + 1) (by omega)
      simp only [s_ct, if_neg c_7, if_neg c_17] at z_
      rw [nI_1 i]
      exact z_

set_option maxRecDepth 100000 in
set_option maxHeartbeats 4000000 in
theorem c_tcr (L : Nat) (b : Bool) (h : Hp)  : EvD mi_X6_triedCracks [.ref 45] (G0 L b) h (s_ct (h 48) 12) (h) := by
  refine EvD.of (lo := [some (.ref 45), none, none]) pf_X6_triedCracks ok_X6_triedCracks rfl rfl ?_
  refine ev_iconst (v := 0) rfl rfl (by decide) ?_
  refine ev_istore_n rfl rfl rfl rfl ?_
  dsimp only [List.set]
  refine ev_iconst (v := 0) rfl rfl (by decide) ?_
  refine ev_istore_n rfl rfl rfl rfl ?_
  dsimp only [List.set]
  exact l_tcr L b h 12 rfl 12 0 (by omega)

set_option maxRecDepth 100000 in
set_option maxHeartbeats 4000000 in
theorem l_cbt (L : Nat) (b : Bool) (h : Hp) (N : Nat) (hN : N = 12)  : ∀ t i : Nat, i + t = N → EvQ mi_X6_crackedBits 4 [some (.ref 45), some (.int (s_cb (h 49) i)), some (.int (nI i))] [] (G0 L b) h 0 0 (fun v G' h' => v = some (.int (s_cb (h 49) N)) ∧ G' = G0 L b ∧ h' = h) := by
  intro t
  induction t with
  | zero =>
    intro i hi
    have hi2 : i = N := by omega
    subst hi2
    refine ev_iload_n rfl rfl rfl ?_
    refine ev_bipush (v := 12) rfl rfl (by decide) ?_
    refine ev_icmp_ge rfl rfl (fun c_7 => ?_) (fun z_ => absurd (by rw [hN]; decide) z_)
    refine ev_iload_n rfl rfl rfl ?_
    exact ev_iret rfl rfl rfl (⟨rfl, rfl, rfl⟩)
  | succ t ih =>
    intro i hi
    refine ev_iload_n rfl rfl rfl ?_
    refine ev_bipush (v := 12) rfl rfl (by decide) ?_
    refine ev_icmp_ge rfl rfl (fun z_ => absurd z_ (show ¬ nI 12 ≤ nI i from nI_ge (by omega) (by omega))) (fun c_7 => ?_)
    refine ev_iload_n rfl rfl rfl ?_
    refine ev_aload_n rfl rfl rfl ?_
    refine ev_getR rfl rfl fl_X6_28 rfl rfl rfl rfl ?_
    refine ev_iload_n rfl rfl rfl ?_
    refine ev_iald rfl rfl rfl (vp_in_nI (by omega) (by decide)) (nI_clamp (by omega)) ?_
    refine ev_if_eq rfl rfl (fun c_17 => ?_) (fun c_17 => ?_)
    · refine ev_iconst (v := 0) rfl rfl (by decide) ?_
      refine ev_ior rfl rfl ?_
      refine ev_istore_n rfl rfl rfl rfl ?_
      dsimp only [List.set]
      refine ev_iinc (y := 1) rfl rfl rfl (by decide) rfl rfl ?_
      dsimp only [List.set]
      refine ev_goto rfl rfl ?_
      have z_ := ih (i + 1) (by omega)
      simp only [s_cb, if_neg c_7, if_pos c_17] at z_
      rw [nI_1 i]
      exact z_
    · refine ev_iconst (v := 1) rfl rfl (by decide) ?_
      refine ev_iload_n rfl rfl rfl ?_
      refine ev_ishl rfl rfl ?_
      refine ev_goto rfl rfl ?_
      refine ev_ior rfl rfl ?_
      refine ev_istore_n rfl rfl rfl rfl ?_
      dsimp only [List.set]
      refine ev_iinc (y := 1) rfl rfl rfl (by decide) rfl rfl ?_
      dsimp only [List.set]
      refine ev_goto rfl rfl ?_
      have z_ := ih (i + 1) (by omega)
      simp only [s_cb, if_neg c_7, if_neg c_17] at z_
      rw [nI_1 i]
      exact z_

set_option maxRecDepth 100000 in
set_option maxHeartbeats 4000000 in
theorem c_cbt (L : Nat) (b : Bool) (h : Hp)  : EvD mi_X6_crackedBits [.ref 45] (G0 L b) h (s_cb (h 49) 12) (h) := by
  refine EvD.of (lo := [some (.ref 45), none, none]) pf_X6_crackedBits ok_X6_crackedBits rfl rfl ?_
  refine ev_iconst (v := 0) rfl rfl (by decide) ?_
  refine ev_istore_n rfl rfl rfl rfl ?_
  dsimp only [List.set]
  refine ev_iconst (v := 0) rfl rfl (by decide) ?_
  refine ev_istore_n rfl rfl rfl rfl ?_
  dsimp only [List.set]
  exact l_cbt L b h 12 rfl 12 0 (by omega)

def co (u : Nat) (tr : Nat → Int32) : Int32 := if u = 0 then s_ct tr 12 + 0 else s_ct tr 12 + 1
def fr (E : Nat → Option (Nat → Int32)) : Nat → Option (Int32 × Nat × (Nat → Int32))
  | 0 => none
  | u + 1 => match E u with
    | none => fr E u
    | some tr => match fr E u with
      | none => some (co u tr, u, tr)
      | some x => if co u tr < x.1 then some (co u tr, u, tr) else some x
section FR
variable {E : Nat → Option (Nat → Int32)} {u : Nat} {tr : Nat → Int32} {x : Int32 × Nat × (Nat → Int32)}
theorem fr_n (e : E u = none) : fr E (u + 1) = fr E u := by
  show (match E u with | none => fr E u | some tr => _) = _
  rw [e]
theorem fr_0 (e : E u = some tr) (f : fr E u = none) : fr E (u + 1) = some (co u tr, u, tr) := by
  show (match E u with | none => fr E u | some tr => (match fr E u with | none => some (co u tr, u, tr) | some x => if co u tr < x.1 then some (co u tr, u, tr) else some x)) = _
  rw [e, f]
theorem fr_l (e : E u = some tr) (f : fr E u = some x) (c : co u tr < x.1) : fr E (u + 1) = some (co u tr, u, tr) := by
  show (match E u with | none => fr E u | some tr => (match fr E u with | none => some (co u tr, u, tr) | some x => if co u tr < x.1 then some (co u tr, u, tr) else some x)) = _
  rw [e, f]
  exact if_pos c
theorem fr_g (e : E u = some tr) (f : fr E u = some x) (c : ¬ co u tr < x.1) : fr E (u + 1) = some x := by
  show (match E u with | none => fr E u | some tr => (match fr E u with | none => some (co u tr, u, tr) | some x => if co u tr < x.1 then some (co u tr, u, tr) else some x)) = _
  rw [e, f]
  exact if_neg c
end FR
/-- what find() has found: its flag, and what stands in the suspects' cells -/
def FS (o : Option (Int32 × Nat × (Nat → Int32))) (q : Int32) (F : Hp) : Prop := (o = none → q = 0) ∧ ∀ x, o = some x → q = 1 ∧ F 45 6 = x.1 ∧ F 45 7 = nI x.2.1 - 1 ∧ ∀ w, w < 12 → F 49 w = x.2.2 w
def lkE (u : Nat) : Int32 := match u with
  | 0 => 0
  | j + 1 => 1 <<< (nI j &&& 31)

