/-! the run -/
def p_up (f : Nat → Int32) (i : Nat) (x : Int32) : Nat → Int32 := fun j => if j = i then x else f j
def p_un (f : Nat → Nat) (i x : Nat) : Nat → Nat := fun j => if j = i then x else f j
def p_cp (o : Nat) : Nat → Nat → (Nat → Int32) → (Nat → Int32)
  | 0, _, r => r
  | t + 1, i, r => p_cp o t (i + 1) (p_up r i (r (i - o)))
def p_mn (m : Nat) : Nat := if m < 25 then m + 1 else 25
def p_ad (r : Nat → Int32) (m : Nat) (c : Int32) : Nat → Int32 := if m < 24 then p_up r m c else r
def p_all (m b x : Nat) : Nat := b + (m - b) * x
/-- where the run stands: place, what may stand next (0 an item, 1 more, 2 an open), the number just taken, beats (25: too many), row, depth, begins, rounds -/
abbrev PS : Type := Nat × Nat × Nat × Nat × (Nat → Int32) × Nat × (Nat → Nat) × (Nat → Nat)
def p_stp (o : Option (Nat × Int32 × Nat)) (w v m : Nat) (r : Nat → Int32) (d : Nat) (bg rd : Nat → Nat) : Option ((Nat × (Nat → Int32)) ⊕ PS) := match o with
  | none => none
  | some x =>
    if w = 2 then (if x.1 = 4 then (if d < 4 then some (.inr (x.2.2, 0, 0, m, r, d + 1, p_un bg d m, p_un rd d v)) else none) else none) else
    if x.1 = 1 then some (.inr (x.2.2, 1, 0, p_mn m, p_ad r m x.2.1, d, bg, rd)) else
    if x.1 = 3 then some (.inr (x.2.2, 1, 0, p_mn m, p_ad r m 0, d, bg, rd)) else
    if x.1 = 2 then (if z_wi x.2.1 1 20 = 0 then none else some (.inr (x.2.2, 2, x.2.1.toNatClampNeg, m, r, d, bg, rd))) else
    if x.1 = 5 then (if w = 1 ∧ 0 < d then (if 24 < m ∨ 24 < p_all m (bg (d - 1)) (rd (d - 1)) then some (.inr (x.2.2, 1, 0, 25, r, d - 1, bg, rd)) else some (.inr (x.2.2, 1, 0, p_all m (bg (d - 1)) (rd (d - 1)), p_cp (m - bg (d - 1)) (p_all m (bg (d - 1)) (rd (d - 1)) - m) m r, d - 1, bg, rd))) else none) else
    if x.1 = 0 then (if w = 1 ∧ d = 0 then (if m ≤ 24 then some (.inl (m, r)) else none) else none) else none
def p_run (T : Nat → Int32) (n : Nat) : Nat → PS → Option (Nat × (Nat → Int32))
  | 0, _ => none
  | k + 1, (p, w, v, m, r, d, bg, rd) => match p_stp (p_tok T n p) w v m r d bg rd with
    | none => none
    | some (.inl x) => some x
    | some (.inr s) => p_run T n k s
theorem p_run_n {T : Nat → Int32} {n k p w v m d : Nat} {r : Nat → Int32} {bg rd : Nat → Nat} (e : p_stp (p_tok T n p) w v m r d bg rd = none) : p_run T n (k + 1) (p, w, v, m, r, d, bg, rd) = none := by
  unfold p_run
  rw [e]
theorem p_run_l {T : Nat → Int32} {n k p w v m d : Nat} {r : Nat → Int32} {bg rd : Nat → Nat} {x : Nat × (Nat → Int32)} (e : p_stp (p_tok T n p) w v m r d bg rd = some (.inl x)) : p_run T n (k + 1) (p, w, v, m, r, d, bg, rd) = some x := by
  unfold p_run
  rw [e]
theorem p_run_r {T : Nat → Int32} {n k p w v m d : Nat} {r : Nat → Int32} {bg rd : Nat → Nat} {s : PS} (e : p_stp (p_tok T n p) w v m r d bg rd = some (.inr s)) : p_run T n (k + 1) (p, w, v, m, r, d, bg, rd) = p_run T n k s := by
  conv => lhs; unfold p_run
  rw [e]
/-- what holds of a standing -/
def PI (w v m d : Nat) (bg rd : Nat → Nat) : Prop := w ≤ 2 ∧ m ≤ 25 ∧ d ≤ 4 ∧ (w = 2 → 1 ≤ v ∧ v ≤ 20) ∧ ∀ i, i < d → bg i ≤ m ∧ 1 ≤ rd i ∧ rd i ≤ 20
theorem p_mn_le (m : Nat) (h : m ≤ 25) : m ≤ p_mn m ∧ p_mn m ≤ 25 := by
  unfold p_mn
  split <;> omega
theorem p_all_ge {m b x : Nat} (hb : b ≤ m) (hx : 1 ≤ x) : m ≤ p_all m b x := by
  unfold p_all
  have : (m - b) * 1 ≤ (m - b) * x := Nat.mul_le_mul_left _ hx
  omega
theorem p_all_le {m b x : Nat} (hb : b ≤ m) (hm : m ≤ 25) (hx : x ≤ 20) : p_all m b x ≤ 600 := by
  unfold p_all
  have h1 : (m - b) * x ≤ (m - b) * 20 := Nat.mul_le_mul_left _ hx
  omega
theorem z_num {x : Int32} (h : ¬ z_wi x 1 20 = 0) : x = nI x.toNatClampNeg ∧ 1 ≤ x.toNatClampNeg ∧ x.toNatClampNeg ≤ 20 := by
  have p : B x 1 20 := z_wi_B (by decide : B 1 1 1) (by decide : B 20 20 20) h
  have p0 : B x 0 ((20 : Nat) : Int) := ⟨by have := p.1; omega, p.2⟩
  have e := (B.nI p0).1
  have l := (B.nI p0).2
  refine ⟨e, ?_, l⟩
  have z := p.1
  rw [e, nI_toInt (by omega)] at z
  omega
theorem PI.stp {T : Nat → Int32} {n p w v m d : Nat} {r : Nat → Int32} {bg rd : Nat → Nat} {p' w' v' m' d' : Nat} {r' : Nat → Int32} {bg' rd' : Nat → Nat} (hp : p ≤ n) (h : PI w v m d bg rd) (e : p_stp (p_tok T n p) w v m r d bg rd = some (.inr (p', w', v', m', r', d', bg', rd'))) : PI w' v' m' d' bg' rd' ∧ p + 1 ≤ p' ∧ p' ≤ n := by
  obtain ⟨h1, h2, h3, h4, h5⟩ := h
  cases et : p_tok T n p with
  | none => rw [et] at e; cases e
  | some x =>
    rw [et] at e
    obtain ⟨t, xv, xe⟩ := x
    have he := p_tok_e hp et
    unfold p_stp at e
    dsimp only at e
    split at e
    · rename_i hw
      split at e
      · rename_i ht
        split at e
        · rename_i hd
          cases e
          refine ⟨⟨by omega, h2, by omega, fun z => absurd z (by decide), fun i hi => ?_⟩, he.2.1 (by omega), he.1⟩
          unfold p_un
          by_cases q : i = d
          · rw [if_pos q, if_pos q]
            have := h4 hw
            omega
          · rw [if_neg q, if_neg q]
            exact h5 i (by omega)
        · cases e
      · cases e
    · split at e
      · rename_i ht
        cases e
        have := p_mn_le m h2
        refine ⟨⟨by omega, by omega, h3, fun z => absurd z (by decide), fun i hi => ?_⟩, he.2.1 (by omega), he.1⟩
        have := h5 i hi
        omega
      · split at e
        · rename_i ht
          cases e
          have := p_mn_le m h2
          refine ⟨⟨by omega, by omega, h3, fun z => absurd z (by decide), fun i hi => ?_⟩, he.2.1 (by omega), he.1⟩
          have := h5 i hi
          omega
        · split at e
          · rename_i ht
            split at e
            · cases e
            · rename_i hz
              cases e
              exact ⟨⟨by omega, h2, h3, fun _ => (z_num hz).2, h5⟩, he.2.1 (by omega), he.1⟩
          · split at e
            · rename_i ht
              split at e
              · rename_i hc
                have h6 := h5 (d - 1) (by omega)
                have h7 := p_all_ge h6.1 h6.2.1
                split at e
                · cases e
                  refine ⟨⟨by omega, by omega, by omega, fun z => absurd z (by decide), fun i hi => ?_⟩, he.2.1 (by omega), he.1⟩
                  have := h5 i (by omega)
                  omega
                · rename_i hl
                  cases e
                  refine ⟨⟨by omega, by omega, by omega, fun z => absurd z (by decide), fun i hi => ?_⟩, he.2.1 (by omega), he.1⟩
                  have := h5 i (by omega)
                  omega
              · cases e
            · split at e
              · split at e
                · split at e
                  · cases e
                  · cases e
                · cases e
              · cases e
def k_ab (h : Hp) (m : Nat) (c : Int32) : Hp := if m < 24 then ev_set (ev_set h 25 m c) 23 10 (nI (p_mn m)) else ev_set h 23 10 (nI (p_mn m))
theorem z_mn {m : Nat} (hm : m ≤ 25) : z_min 25 (nI m + 1) = nI (p_mn m) := by
  rw [nI_1 m]
  unfold z_min p_mn
  by_cases q : m < 25
  · rw [if_pos q]
    by_cases q2 : m + 1 = 25
    · rw [q2]; rfl
    · exact if_pos (show nI (m + 1) < nI 25 from (nI_lt2 (by omega) (by decide)).mpr (by omega))
  · rw [if_neg q]
    exact if_neg (show ¬ nI (m + 1) < nI 25 from fun z => absurd ((nI_lt2 (by omega) (by decide)).mp z) (by omega))

set_option maxRecDepth 100000 in
set_option maxHeartbeats 4000000 in
theorem c_addBeat (L : Nat) (b : Bool) (h : Hp) (m : Nat) (hm0 : m ≤ 25) (hm : h 23 10 = nI m) (c : Int32) : EvD mi_X2_addBeat [.ref 23, .int c] (G0 L b) h (1) (k_ab h m c) := by
  refine EvD.of (lo := [some (.ref 23), some (.int c)]) pf_X2_addBeat ok_X2_addBeat rfl rfl ?_
  refine ev_aload_n rfl rfl rfl ?_
  refine ev_getI rfl rfl fl_X2_44 rfl rfl rfl ?_
  try simp (disch := decide) only [ev_rd2, hm]
  refine ev_bipush (v := 24) rfl rfl (by decide) ?_
  refine ev_icmp_ge rfl rfl (fun c_6 => ?_) (fun c_6 => ?_)
  · refine ev_aload_n rfl rfl rfl ?_
    refine ev_bipush (v := 25) rfl rfl (by decide) ?_
    refine ev_aload_n rfl rfl rfl ?_
    refine ev_getI rfl rfl fl_X2_44 rfl rfl rfl ?_
    try simp (disch := decide) only [ev_rd2, hm]
    refine ev_iconst (v := 1) rfl rfl (by decide) ?_
    refine ev_iadd rfl rfl ?_
    refine ev_S2D rfl rfl lk_X2_105 st_J9_min_7cf53 rfl rfl (c_min _ _ _ _) ?_
    rw [z_mn hm0]
    refine ev_putI rfl rfl fl_X2_44 rfl rfl rfl rfl rfl ?_
    refine ev_iconst (v := 1) rfl rfl (by decide) ?_
    exact ev_iret rfl rfl rfl (⟨rfl, rfl, by unfold k_ab; rw [if_neg (show ¬ m < 24 by have := (nI_le2 (a := 24) (b := m) (by decide) (by omega)).mp c_6; omega)]⟩)
  · refine ev_aload_n rfl rfl rfl ?_
    refine ev_getR rfl rfl fl_X2_40 rfl rfl rfl rfl ?_
    refine ev_aload_n rfl rfl rfl ?_
    refine ev_getI rfl rfl fl_X2_44 rfl rfl rfl ?_
    try simp (disch := decide) only [ev_rd2, hm]
    refine ev_iload_n rfl rfl rfl ?_
    refine ev_iast rfl rfl rfl rfl (vp_in_nI (by have := nI_xle (a := 24) c_6 (by decide) (by omega); omega) (by decide)) (nI_clamp (by omega)) ?_
    refine ev_aload_n rfl rfl rfl ?_
    refine ev_bipush (v := 25) rfl rfl (by decide) ?_
    refine ev_aload_n rfl rfl rfl ?_
    refine ev_getI rfl rfl fl_X2_44 rfl rfl rfl ?_
    try simp (disch := decide) only [ev_rd2, hm]
    refine ev_iconst (v := 1) rfl rfl (by decide) ?_
    refine ev_iadd rfl rfl ?_
    refine ev_S2D rfl rfl lk_X2_105 st_J9_min_7cf53 rfl rfl (c_min _ _ _ _) ?_
    rw [z_mn hm0]
    refine ev_putI rfl rfl fl_X2_44 rfl rfl rfl rfl rfl ?_
    refine ev_iconst (v := 1) rfl rfl (by decide) ?_
    exact ev_iret rfl rfl rfl (⟨rfl, rfl, by unfold k_ab; rw [if_pos (show m < 24 from nI_xle (a := 24) c_6 (by decide) (by omega))]⟩)

set_option maxRecDepth 100000 in
set_option maxHeartbeats 4000000 in
theorem c_takeChord (L : Nat) (b : Bool) (h : Hp) (m : Nat) (hm0 : m ≤ 25) (hm : h 23 10 = nI m) (e6 : h 23 6 = -1) : EvD mi_X2_takeChord [.ref 23] (G0 L b) h (1) (k_ab h m (h 23 5)) := by
  refine EvD.of (lo := [some (.ref 23)]) pf_X2_takeChord ok_X2_takeChord rfl rfl ?_
  refine ev_aload_n rfl rfl rfl ?_
  refine ev_getI rfl rfl fl_X2_31 rfl rfl rfl ?_
  refine ev_iconst (v := (-1)) rfl rfl (by decide) ?_
  refine ev_icmp_eq rfl rfl (fun c_5 => ?_) (fun z_ => absurd e6 z_)
  refine ev_aload_n rfl rfl rfl ?_
  refine ev_aload_n rfl rfl rfl ?_
  refine ev_getI rfl rfl fl_X2_28 rfl rfl rfl ?_
  refine ev_V1D rfl rfl lk_X2_93 vt_X2_addBeat rfl rfl rfl rfl rfl (c_addBeat L b _ m hm0 (by first | exact hm | (simp (disch := decide) only [ev_rd1, ev_rd2, ev_rd3]; exact hm)) _) ?_
  exact ev_iret rfl rfl rfl (⟨rfl, rfl, rfl⟩)

set_option maxRecDepth 100000 in
set_option maxHeartbeats 4000000 in
theorem c_takeChordS (L : Nat) (b : Bool) (h : Hp) (m : Nat) (hm0 : m ≤ 25) (hm : h 23 10 = nI m) (e6 : ¬ h 23 6 = -1) : EvD mi_X2_takeChord [.ref 23] (G0 L b) h (1) (k_ab (ev_set (ev_set h 23 7 4) 23 8 (h 23 6)) m (h 23 5)) := by
  refine EvD.of (lo := [some (.ref 23)]) pf_X2_takeChord ok_X2_takeChord rfl rfl ?_
  refine ev_aload_n rfl rfl rfl ?_
  refine ev_getI rfl rfl fl_X2_31 rfl rfl rfl ?_
  refine ev_iconst (v := (-1)) rfl rfl (by decide) ?_
  refine ev_icmp_eq rfl rfl (fun z_ => absurd z_ e6) (fun c_5 => ?_)
  refine ev_aload_n rfl rfl rfl ?_
  refine ev_iconst (v := 4) rfl rfl (by decide) ?_
  refine ev_aload_n rfl rfl rfl ?_
  refine ev_getI rfl rfl fl_X2_31 rfl rfl rfl ?_
  refine ev_V2U rfl rfl lk_X2_79 vt_X2_fail rfl rfl rfl rfl rfl (c_fail _ _ _ _ _) ?_
  refine ev_aload_n rfl rfl rfl ?_
  refine ev_aload_n rfl rfl rfl ?_
  refine ev_getI rfl rfl fl_X2_28 rfl rfl rfl ?_
  try simp (disch := decide) only [ev_rd1, ev_rd2, ev_rd3]
  refine ev_V1D rfl rfl lk_X2_93 vt_X2_addBeat rfl rfl rfl rfl rfl (c_addBeat L b _ m hm0 (by first | exact hm | (simp (disch := decide) only [ev_rd1, ev_rd2, ev_rd3]; exact hm)) _) ?_
  exact ev_iret rfl rfl rfl (⟨rfl, rfl, rfl⟩)

set_option maxRecDepth 100000 in
set_option maxHeartbeats 4000000 in
theorem c_takeNumber (L : Nat) (b : Bool) (h : Hp)  : EvD mi_X2_takeNumber [.ref 23] (G0 L b) h (2) (if z_wi (h 23 5) 1 20 = 0 then ev_set (ev_set h 23 7 3) 23 8 (h 23 4) else h) := by
  refine EvD.of (lo := [some (.ref 23)]) pf_X2_takeNumber ok_X2_takeNumber rfl rfl ?_
  refine ev_aload_n rfl rfl rfl ?_
  refine ev_getI rfl rfl fl_X2_28 rfl rfl rfl ?_
  refine ev_iconst (v := 1) rfl rfl (by decide) ?_
  refine ev_bipush (v := 20) rfl rfl (by decide) ?_
  refine ev_SN3D rfl rfl lk_X2_111 st_X9_isWithin rfl rfl (c_isWithin _ _ _ _ _) ?_
  refine ev_if_ne rfl rfl (fun c_10 => ?_) (fun c_10 => ?_)
  · refine ev_iconst (v := 2) rfl rfl (by decide) ?_
    exact ev_iret rfl rfl rfl (⟨rfl, rfl, by simp only [if_neg c_10]⟩)
  · refine ev_aload_n rfl rfl rfl ?_
    refine ev_iconst (v := 3) rfl rfl (by decide) ?_
    refine ev_aload_n rfl rfl rfl ?_
    refine ev_getI rfl rfl fl_X2_25 rfl rfl rfl ?_
    refine ev_V2U rfl rfl lk_X2_79 vt_X2_fail rfl rfl rfl rfl rfl (c_fail _ _ _ _ _) ?_
    refine ev_iconst (v := 2) rfl rfl (by decide) ?_
    exact ev_iret rfl rfl rfl (⟨rfl, rfl, by simp only [if_pos c_10]⟩)

set_option maxRecDepth 100000 in
set_option maxHeartbeats 4000000 in
theorem c_takeOpen (L : Nat) (b : Bool) (h : Hp) (m : Nat) (hm0 : m ≤ 25) (hm : h 23 10 = nI m) (d : Nat) (hd : d < 4) (ed : h 23 13 = nI d) : EvD mi_X2_takeOpen [.ref 23] (G0 L b) h (0) (ev_set (ev_set (ev_set h 26 d (nI m)) 27 d (h 23 5)) 23 13 (nI (d + 1))) := by
  refine EvD.of (lo := [some (.ref 23)]) pf_X2_takeOpen ok_X2_takeOpen rfl rfl ?_
  refine ev_aload_n rfl rfl rfl ?_
  refine ev_getI rfl rfl fl_X2_53 rfl rfl rfl ?_
  try simp (disch := decide) only [ev_rd2, hm, ed]
  refine ev_iconst (v := 4) rfl rfl (by decide) ?_
  refine ev_icmp_lt rfl rfl (fun c_5 => ?_) (fun z_ => absurd ((nI_lt2 (a := d) (b := 4) (by omega) (by decide)).mpr hd) z_)
  refine ev_aload_n rfl rfl rfl ?_
  refine ev_getR rfl rfl fl_X2_47 rfl rfl rfl rfl ?_
  refine ev_aload_n rfl rfl rfl ?_
  refine ev_getI rfl rfl fl_X2_53 rfl rfl rfl ?_
  try simp (disch := decide) only [ev_rd2, hm, ed]
  refine ev_aload_n rfl rfl rfl ?_
  refine ev_getI rfl rfl fl_X2_44 rfl rfl rfl ?_
  try simp (disch := decide) only [ev_rd2, hm, ed]
  refine ev_iast rfl rfl rfl rfl (vp_in_nI (by omega) (by decide)) (nI_clamp (by omega)) ?_
  refine ev_aload_n rfl rfl rfl ?_
  refine ev_getR rfl rfl fl_X2_50 rfl rfl rfl rfl ?_
  refine ev_aload_n rfl rfl rfl ?_
  refine ev_getI rfl rfl fl_X2_53 rfl rfl rfl ?_
  try simp (disch := decide) only [ev_rd2, hm, ed]
  refine ev_aload_n rfl rfl rfl ?_
  refine ev_getI rfl rfl fl_X2_28 rfl rfl rfl ?_
  try simp (disch := decide) only [ev_rd2, hm, ed]
  refine ev_iast rfl rfl rfl rfl (vp_in_nI (by omega) (by decide)) (nI_clamp (by omega)) ?_
  refine ev_aload_n rfl rfl rfl ?_
  refine ev_dup rfl rfl rfl ?_
  refine ev_getI rfl rfl fl_X2_53 rfl rfl rfl ?_
  try simp (disch := decide) only [ev_rd2, hm, ed]
  refine ev_iconst (v := 1) rfl rfl (by decide) ?_
  refine ev_iadd rfl rfl ?_
  refine ev_putI rfl rfl fl_X2_53 rfl rfl rfl rfl rfl ?_
  rw [nI_1 d]
  refine ev_iconst (v := 0) rfl rfl (by decide) ?_
  exact ev_iret rfl rfl rfl (⟨rfl, rfl, rfl⟩)

set_option maxRecDepth 100000 in
set_option maxHeartbeats 4000000 in
theorem c_takeOpenF (L : Nat) (b : Bool) (h : Hp) (d : Nat) (hd : 4 ≤ d) (hd0 : d ≤ 4) (ed : h 23 13 = nI d) : EvD mi_X2_takeOpen [.ref 23] (G0 L b) h (3) (ev_set (ev_set h 23 7 5) 23 8 (h 23 4)) := by
  refine EvD.of (lo := [some (.ref 23)]) pf_X2_takeOpen ok_X2_takeOpen rfl rfl ?_
  refine ev_aload_n rfl rfl rfl ?_
  refine ev_getI rfl rfl fl_X2_53 rfl rfl rfl ?_
  try simp (disch := decide) only [ev_rd2, ed]
  refine ev_iconst (v := 4) rfl rfl (by decide) ?_
  refine ev_icmp_lt rfl rfl (fun z_ => absurd z_ (fun z_ => absurd ((nI_lt2 (a := d) (b := 4) (by omega) (by decide)).mp z_) (by omega))) (fun c_5 => ?_)
  refine ev_aload_n rfl rfl rfl ?_
  refine ev_iconst (v := 5) rfl rfl (by decide) ?_
  refine ev_aload_n rfl rfl rfl ?_
  refine ev_getI rfl rfl fl_X2_25 rfl rfl rfl ?_
  try simp (disch := decide) only [ev_rd2, ed]
  refine ev_V2U rfl rfl lk_X2_79 vt_X2_fail rfl rfl rfl rfl rfl (c_fail _ _ _ _ _) ?_
  refine ev_iconst (v := 3) rfl rfl (by decide) ?_
  exact ev_iret rfl rfl rfl (⟨rfl, rfl, rfl⟩)

set_option maxRecDepth 100000 in
set_option maxHeartbeats 4000000 in
theorem c_takeEnd (L : Nat) (b : Bool) (h : Hp) (m : Nat) (hm0 : m ≤ 25) (hm : h 23 10 = nI m)  : EvD mi_X2_takeEnd [.ref 23] (G0 L b) h (3) (if m ≤ 24 then h else ev_set (ev_set h 23 7 6) 23 8 0) := by
  refine EvD.of (lo := [some (.ref 23)]) pf_X2_takeEnd ok_X2_takeEnd rfl rfl ?_
  refine ev_aload_n rfl rfl rfl ?_
  refine ev_getI rfl rfl fl_X2_44 rfl rfl rfl ?_
  try simp (disch := decide) only [ev_rd2, hm]
  refine ev_bipush (v := 24) rfl rfl (by decide) ?_
  refine ev_icmp_le rfl rfl (fun c_6 => ?_) (fun c_6 => ?_)
  · refine ev_iconst (v := 3) rfl rfl (by decide) ?_
    exact ev_iret rfl rfl rfl (⟨rfl, rfl, by rw [if_pos ((nI_le2 (a := m) (b := 24) (by omega) (by decide)).mp c_6)]⟩)
  · refine ev_aload_n rfl rfl rfl ?_
    refine ev_bipush (v := 6) rfl rfl (by decide) ?_
    refine ev_iconst (v := 0) rfl rfl (by decide) ?_
    refine ev_V2U rfl rfl lk_X2_79 vt_X2_fail rfl rfl rfl rfl rfl (c_fail _ _ _ _ _) ?_
    refine ev_iconst (v := 3) rfl rfl (by decide) ?_
    exact ev_iret rfl rfl rfl (⟨rfl, rfl, by rw [if_neg (fun z_ => c_6 ((nI_le2 (a := m) (b := 24) (by omega) (by decide)).mpr z_))]⟩)

def h_row (h : Hp) (r : Nat → Int32) : Hp := fun i j => if i = 25 then r j else h i j
theorem h_row_ne {h : Hp} {r : Nat → Int32} {i j : Nat} (hi : i ≠ 25) : h_row h r i j = h i j := if_neg hi
theorem h_row_25 (h : Hp) (r : Nat → Int32) (j : Nat) : h_row h r 25 j = r j := if_pos rfl
theorem h_row_id (h : Hp) : h_row h (h 25) = h := by
  funext i j
  unfold h_row
  by_cases e : i = 25
  · rw [if_pos e, e]
  · rw [if_neg e]
theorem h_row_set (h : Hp) (r : Nat → Int32) (i : Nat) (x : Int32) : ev_set (h_row h r) 25 i x = h_row h (p_up r i x) := by
  funext a j
  unfold ev_set h_row p_up
  by_cases e : a = 25
  · subst e
    by_cases e2 : j = i
    · rw [if_pos ⟨rfl, e2⟩, if_pos rfl, if_pos e2]
    · rw [if_neg (fun z => e2 z.2), if_pos rfl, if_pos rfl, if_neg e2]
  · rw [if_neg (fun z => e z.1), if_neg e, if_neg e]

set_option maxRecDepth 100000 in
set_option maxHeartbeats 4000000 in
theorem nI_sub2 {a b : Nat} (h : b ≤ a) (ha : a < 2 ^ 31) : nI a - nI b = nI (a - b) := by
  have e := w_sub (x := nI a) (y := nI b) (by rw [nI_toInt ha, nI_toInt (by omega)]; omega) (by rw [nI_toInt ha, nI_toInt (by omega)]; omega)
  rw [nI_toInt ha, nI_toInt (by omega)] at e
  refine Int32.toInt_inj.mp ?_
  rw [e, nI_toInt (by omega)]
  omega
theorem l_close (L : Nat) (b : Bool) (h : Hp) (o all : Nat) (bi : Int32) (hall : all ≤ 24) : ∀ (t i : Nat) (r : Nat → Int32), i + t = all → o ≤ i → EvQ mi_X2_takeClose 75 [some (.ref 23), some (.int bi), some (.int (nI all)), some (.int (nI o)), some (.int (nI i))] [] (G0 L b) (h_row h r) 0 0 (fun v G' h' => v = some (.int 1) ∧ G' = G0 L b ∧ h' = ev_set (h_row h (p_cp o t i r)) 23 10 (nI all)) := by
  intro t
  induction t with
  | zero =>
    intro i r hi ho
    have hi2 : i = all := by omega
    subst hi2
    refine ev_iload rfl rfl rfl ?_
    refine ev_iload_n rfl rfl rfl ?_
    refine ev_icmp_ge rfl rfl (fun c_78 => ?_) (fun z_ => absurd (Int32.le_refl _) z_)
    refine ev_aload_n rfl rfl rfl ?_
    refine ev_iload_n rfl rfl rfl ?_
    refine ev_putI rfl rfl fl_X2_44 rfl rfl rfl rfl rfl ?_
    refine ev_iconst (v := 1) rfl rfl (by decide) ?_
    exact ev_iret rfl rfl rfl (⟨rfl, rfl, rfl⟩)
  | succ t ih =>
    intro i r hi ho
    refine ev_iload rfl rfl rfl ?_
    refine ev_iload_n rfl rfl rfl ?_
    refine ev_icmp_ge rfl rfl (fun z_ => absurd z_ (fun z_ => absurd ((nI_le2 (by omega) (by omega)).mp z_) (by omega))) (fun c_78 => ?_)
    refine ev_aload_n rfl rfl rfl ?_
    refine ev_getR rfl rfl fl_X2_40 rfl rfl rfl rfl ?_
    refine ev_iload rfl rfl rfl ?_
    refine ev_aload_n rfl rfl rfl ?_
    refine ev_getR rfl rfl fl_X2_40 rfl rfl rfl rfl ?_
    refine ev_iload rfl rfl rfl ?_
    refine ev_iload_n rfl rfl rfl ?_
    refine ev_isub rfl rfl ?_
    rw [nI_sub2 (show o ≤ i by omega) (show i < 2 ^ 31 by omega)]
    refine ev_iald rfl rfl rfl (vp_in_nI (by omega) (by decide)) (nI_clamp (by omega)) ?_
    try simp only [h_row_25]
    refine ev_iast rfl rfl rfl rfl (vp_in_nI (by omega) (by decide)) (nI_clamp (by omega)) ?_
    refine ev_iinc (y := 1) rfl rfl rfl (by decide) rfl rfl ?_
    dsimp only [List.set]
    refine ev_goto rfl rfl ?_
    rw [nI_1 i, h_row_set]
    exact ih (i + 1) (p_up r i (r (i - o))) (by omega) (by omega)

def k_cls (h : Hp) (m d bn rn : Nat) : Hp := if 24 < m ∨ 24 < p_all m bn rn then ev_set (ev_set h 23 13 (nI (d - 1))) 23 10 25 else ev_set (h_row (ev_set h 23 13 (nI (d - 1))) (p_cp (m - bn) (p_all m bn rn - m) m (h 25))) 23 10 (nI (p_all m bn rn))
theorem z_pall {m bn rn : Nat} (hb : bn ≤ m) (hm : m ≤ 25) (hr : rn ≤ 20) : nI bn + (nI m - nI bn) * nI rn = nI (p_all m bn rn) := by
  rw [nI_sub2 hb (by omega), nI_mul, nI_add]
  rfl

set_option maxRecDepth 100000 in
set_option maxHeartbeats 4000000 in
theorem c_takeClose (L : Nat) (b : Bool) (h : Hp) (m : Nat) (hm0 : m ≤ 25) (hm : h 23 10 = nI m) (d : Nat) (hd : 0 < d) (hd0 : d ≤ 4) (ed : h 23 13 = nI d) (bn rn : Nat) (hb : bn ≤ m) (hr1 : 1 ≤ rn) (hr : rn ≤ 20) (eb : h 26 (d - 1) = nI bn) (er : h 27 (d - 1) = nI rn)  : EvD mi_X2_takeClose [.ref 23] (G0 L b) h (1) (k_cls h m d bn rn) := by
  have hal := p_all_le hb hm0 hr
  have hag := p_all_ge hb hr1
  refine EvD.of (lo := [some (.ref 23), none, none, none, none]) pf_X2_takeClose ok_X2_takeClose rfl rfl ?_
  refine ev_aload_n rfl rfl rfl ?_
  refine ev_dup rfl rfl rfl ?_
  refine ev_getI rfl rfl fl_X2_53 rfl rfl rfl ?_
  try simp (disch := decide) only [ev_rd1, ev_rd2, ev_rd3, hm, ed, eb, er]
  refine ev_iconst (v := 1) rfl rfl (by decide) ?_
  refine ev_isub rfl rfl ?_
  rw [show nI d - 1 = nI (d - 1) from nI_sub2 (b := 1) (by omega) (by omega)]
  refine ev_putI rfl rfl fl_X2_53 rfl rfl rfl rfl rfl ?_
  refine ev_aload_n rfl rfl rfl ?_
  refine ev_getR rfl rfl fl_X2_47 rfl rfl rfl rfl ?_
  refine ev_aload_n rfl rfl rfl ?_
  refine ev_getI rfl rfl fl_X2_53 rfl rfl rfl ?_
  try simp (disch := decide) only [ev_rd1, ev_rd2, ev_rd3, hm, ed, eb, er]
  refine ev_iald rfl rfl rfl (vp_in_nI (by omega) (by decide)) (nI_clamp (by omega)) ?_
  try simp (disch := decide) only [ev_rd1, ev_rd2, ev_rd3, hm, ed, eb, er]
  refine ev_istore_n rfl rfl rfl rfl ?_
  dsimp only [List.set]
  refine ev_iload_n rfl rfl rfl ?_
  refine ev_aload_n rfl rfl rfl ?_
  refine ev_getI rfl rfl fl_X2_44 rfl rfl rfl ?_
  try simp (disch := decide) only [ev_rd1, ev_rd2, ev_rd3, hm, ed, eb, er]
  refine ev_iload_n rfl rfl rfl ?_
  refine ev_isub rfl rfl ?_
  refine ev_aload_n rfl rfl rfl ?_
  refine ev_getR rfl rfl fl_X2_50 rfl rfl rfl rfl ?_
  refine ev_aload_n rfl rfl rfl ?_
  refine ev_getI rfl rfl fl_X2_53 rfl rfl rfl ?_
  try simp (disch := decide) only [ev_rd1, ev_rd2, ev_rd3, hm, ed, eb, er]
  refine ev_iald rfl rfl rfl (vp_in_nI (by omega) (by decide)) (nI_clamp (by omega)) ?_
  try simp (disch := decide) only [ev_rd1, ev_rd2, ev_rd3, hm, ed, eb, er]
  refine ev_imul rfl rfl ?_
  refine ev_iadd rfl rfl ?_
  rw [z_pall hb hm0 hr]
  refine ev_istore_n rfl rfl rfl rfl ?_
  dsimp only [List.set]
  refine ev_aload_n rfl rfl rfl ?_
  refine ev_getI rfl rfl fl_X2_44 rfl rfl rfl ?_
  try simp (disch := decide) only [ev_rd1, ev_rd2, ev_rd3, hm, ed, eb, er]
  refine ev_bipush (v := 24) rfl rfl (by decide) ?_
  refine ev_icmp_gt rfl rfl (fun c_45 => ?_) (fun c_45 => ?_)
  · refine ev_aload_n rfl rfl rfl ?_
    refine ev_bipush (v := 25) rfl rfl (by decide) ?_
    refine ev_putI rfl rfl fl_X2_44 rfl rfl rfl rfl rfl ?_
    refine ev_iconst (v := 1) rfl rfl (by decide) ?_
    exact ev_iret rfl rfl rfl (⟨rfl, rfl, by unfold k_cls; rw [if_pos (Or.inl (show 24 < m from (nI_lt2 (a := 24) (b := m) (by decide) (by omega)).mp c_45))]⟩)
  · refine ev_iload_n rfl rfl rfl ?_
    refine ev_bipush (v := 24) rfl rfl (by decide) ?_
    refine ev_icmp_le rfl rfl (fun c_51 => ?_) (fun c_51 => ?_)
    · refine ev_aload_n rfl rfl rfl ?_
      refine ev_getI rfl rfl fl_X2_44 rfl rfl rfl ?_
      try simp (disch := decide) only [ev_rd1, ev_rd2, ev_rd3, hm, ed, eb, er]
      refine ev_iload_n rfl rfl rfl ?_
      refine ev_isub rfl rfl ?_
      rw [nI_sub2 hb (by omega)]
      refine ev_istore_n rfl rfl rfl rfl ?_
      dsimp only [List.set]
      refine ev_aload_n rfl rfl rfl ?_
      refine ev_getI rfl rfl fl_X2_44 rfl rfl rfl ?_
      try simp (disch := decide) only [ev_rd1, ev_rd2, ev_rd3, hm, ed, eb, er]
      refine ev_istore rfl rfl rfl rfl ?_
      dsimp only [List.set]
      have h24 : p_all m bn rn ≤ 24 := (nI_le2 (a := p_all m bn rn) (b := 24) (by omega) (by decide)).mp c_51
      have m24 : ¬ 24 < m := fun z_ => c_45 ((nI_lt2 (a := 24) (b := m) (by decide) (by omega)).mpr z_)
      have z_ := l_close L b (ev_set h 23 13 (nI (d - 1))) (m - bn) (p_all m bn rn) (nI bn) h24 (p_all m bn rn - m) m (ev_set h 23 13 (nI (d - 1)) 25) (by omega) (by omega)
      rw [h_row_id] at z_
      unfold k_cls
      rw [if_neg (fun q_ => q_.elim m24 (fun y_ => by omega))]
      exact z_
    · refine ev_aload_n rfl rfl rfl ?_
      refine ev_bipush (v := 25) rfl rfl (by decide) ?_
      refine ev_putI rfl rfl fl_X2_44 rfl rfl rfl rfl rfl ?_
      refine ev_iconst (v := 1) rfl rfl (by decide) ?_
      exact ev_iret rfl rfl rfl (⟨rfl, rfl, by unfold k_cls; rw [if_pos (Or.inr (show 24 < p_all m bn rn from nI_xle (b := 24) c_51 (by omega) (by decide)))]⟩)

set_option maxRecDepth 100000 in
set_option maxHeartbeats 4000000 in
theorem t_open (L : Nat) (b : Bool) (h : Hp) (m : Nat) (hm0 : m ≤ 25) (hm : h 23 10 = nI m) (d : Nat) (hd : d < 4) (ed : h 23 13 = nI d) (e3 : h 23 3 = 4) : EvD mi_X2_take [.ref 23, .int 2] (G0 L b) h (0) (ev_set (ev_set (ev_set h 26 d (nI m)) 27 d (h 23 5)) 23 13 (nI (d + 1))) := by
  refine EvD.of (lo := [some (.ref 23), some (.int 2)]) pf_X2_take ok_X2_take rfl rfl ?_
  refine ev_iload_n rfl rfl rfl ?_
  refine ev_iconst (v := 2) rfl rfl (by decide) ?_
  refine ev_icmp_ne rfl rfl (fun z_ => absurd (by decide) z_) (fun c_2 => ?_)
  refine ev_aload_n rfl rfl rfl ?_
  refine ev_getV (v := 4) rfl rfl fl_X2_22 rfl rfl rfl e3 ?_
  refine ev_iconst (v := 4) rfl rfl (by decide) ?_
  refine ev_icmp_ne rfl rfl (fun z_ => absurd (by decide) z_) (fun c_10 => ?_)
  refine ev_aload_n rfl rfl rfl ?_
  refine ev_V0D rfl rfl lk_X2_83 vt_X2_takeOpen rfl rfl rfl rfl rfl (c_takeOpen L b h m hm0 hm d hd ed) ?_
  refine ev_goto rfl rfl ?_
  exact ev_iret rfl rfl rfl (⟨rfl, rfl, rfl⟩)

set_option maxRecDepth 100000 in
set_option maxHeartbeats 4000000 in
theorem t_openF (L : Nat) (b : Bool) (h : Hp) (d : Nat) (hd : 4 ≤ d) (hd0 : d ≤ 4) (ed : h 23 13 = nI d) (e3 : h 23 3 = 4) : EvD mi_X2_take [.ref 23, .int 2] (G0 L b) h (3) (ev_set (ev_set h 23 7 5) 23 8 (h 23 4)) := by
  refine EvD.of (lo := [some (.ref 23), some (.int 2)]) pf_X2_take ok_X2_take rfl rfl ?_
  refine ev_iload_n rfl rfl rfl ?_
  refine ev_iconst (v := 2) rfl rfl (by decide) ?_
  refine ev_icmp_ne rfl rfl (fun z_ => absurd (by decide) z_) (fun c_2 => ?_)
  refine ev_aload_n rfl rfl rfl ?_
  refine ev_getV (v := 4) rfl rfl fl_X2_22 rfl rfl rfl e3 ?_
  refine ev_iconst (v := 4) rfl rfl (by decide) ?_
  refine ev_icmp_ne rfl rfl (fun z_ => absurd (by decide) z_) (fun c_10 => ?_)
  refine ev_aload_n rfl rfl rfl ?_
  refine ev_V0D rfl rfl lk_X2_83 vt_X2_takeOpen rfl rfl rfl rfl rfl (c_takeOpenF L b h d hd hd0 ed) ?_
  refine ev_goto rfl rfl ?_
  exact ev_iret rfl rfl rfl (⟨rfl, rfl, rfl⟩)

set_option maxRecDepth 100000 in
set_option maxHeartbeats 4000000 in
theorem t_mis2 (L : Nat) (b : Bool) (h : Hp) (e3 : ¬ h 23 3 = 4) : EvD mi_X2_take [.ref 23, .int 2] (G0 L b) h (3) (ev_set (ev_set h 23 7 2) 23 8 (h 23 4)) := by
  refine EvD.of (lo := [some (.ref 23), some (.int 2)]) pf_X2_take ok_X2_take rfl rfl ?_
  refine ev_iload_n rfl rfl rfl ?_
  refine ev_iconst (v := 2) rfl rfl (by decide) ?_
  refine ev_icmp_ne rfl rfl (fun z_ => absurd (by decide) z_) (fun c_2 => ?_)
  refine ev_aload_n rfl rfl rfl ?_
  refine ev_getI rfl rfl fl_X2_22 rfl rfl rfl ?_
  refine ev_iconst (v := 4) rfl rfl (by decide) ?_
  refine ev_icmp_ne rfl rfl (fun c_10 => ?_) (fun z_ => absurd z_ e3)
  refine ev_aload_n rfl rfl rfl ?_
  refine ev_V0D rfl rfl lk_X2_87 vt_X2_misplaced rfl rfl rfl rfl rfl (c_misplaced _ _ _) ?_
  exact ev_iret rfl rfl rfl (⟨rfl, rfl, rfl⟩)

set_option maxRecDepth 100000 in
set_option maxHeartbeats 4000000 in
theorem t_chord (L : Nat) (b : Bool) (h : Hp) (m : Nat) (hm0 : m ≤ 25) (hm : h 23 10 = nI m) (wI : Int32) (hw : ¬ wI = 2) (e3 : h 23 3 = 1) (e6 : h 23 6 = -1) : EvD mi_X2_take [.ref 23, .int wI] (G0 L b) h (1) (k_ab h m (h 23 5)) := by
  refine EvD.of (lo := [some (.ref 23), some (.int wI)]) pf_X2_take ok_X2_take rfl rfl ?_
  refine ev_iload_n rfl rfl rfl ?_
  refine ev_iconst (v := 2) rfl rfl (by decide) ?_
  refine ev_icmp_ne rfl rfl (fun c_2 => ?_) (fun z_ => absurd z_ hw)
  refine ev_aload_n rfl rfl rfl ?_
  refine ev_getV (v := 1) rfl rfl fl_X2_22 rfl rfl rfl e3 ?_
  refine ev_tabIn 68 rfl (by decide) (by decide) rfl (by decide) ?_
  refine ev_aload_n rfl rfl rfl ?_
  refine ev_V0D rfl rfl lk_X2_90 vt_X2_takeChord rfl rfl rfl rfl rfl (c_takeChord L b h m hm0 hm e6) ?_
  exact ev_iret rfl rfl rfl (⟨rfl, rfl, rfl⟩)

set_option maxRecDepth 100000 in
set_option maxHeartbeats 4000000 in
theorem t_chordS (L : Nat) (b : Bool) (h : Hp) (m : Nat) (hm0 : m ≤ 25) (hm : h 23 10 = nI m) (wI : Int32) (hw : ¬ wI = 2) (e3 : h 23 3 = 1) (e6 : ¬ h 23 6 = -1) : EvD mi_X2_take [.ref 23, .int wI] (G0 L b) h (1) (k_ab (ev_set (ev_set h 23 7 4) 23 8 (h 23 6)) m (h 23 5)) := by
  refine EvD.of (lo := [some (.ref 23), some (.int wI)]) pf_X2_take ok_X2_take rfl rfl ?_
  refine ev_iload_n rfl rfl rfl ?_
  refine ev_iconst (v := 2) rfl rfl (by decide) ?_
  refine ev_icmp_ne rfl rfl (fun c_2 => ?_) (fun z_ => absurd z_ hw)
  refine ev_aload_n rfl rfl rfl ?_
  refine ev_getV (v := 1) rfl rfl fl_X2_22 rfl rfl rfl e3 ?_
  refine ev_tabIn 68 rfl (by decide) (by decide) rfl (by decide) ?_
  refine ev_aload_n rfl rfl rfl ?_
  refine ev_V0D rfl rfl lk_X2_90 vt_X2_takeChord rfl rfl rfl rfl rfl (c_takeChordS L b h m hm0 hm e6) ?_
  exact ev_iret rfl rfl rfl (⟨rfl, rfl, rfl⟩)

set_option maxRecDepth 100000 in
set_option maxHeartbeats 4000000 in
theorem t_rest (L : Nat) (b : Bool) (h : Hp) (m : Nat) (hm0 : m ≤ 25) (hm : h 23 10 = nI m) (wI : Int32) (hw : ¬ wI = 2) (e3 : h 23 3 = 3) : EvD mi_X2_take [.ref 23, .int wI] (G0 L b) h (1) (k_ab h m 0) := by
  refine EvD.of (lo := [some (.ref 23), some (.int wI)]) pf_X2_take ok_X2_take rfl rfl ?_
  refine ev_iload_n rfl rfl rfl ?_
  refine ev_iconst (v := 2) rfl rfl (by decide) ?_
  refine ev_icmp_ne rfl rfl (fun c_2 => ?_) (fun z_ => absurd z_ hw)
  refine ev_aload_n rfl rfl rfl ?_
  refine ev_getV (v := 3) rfl rfl fl_X2_22 rfl rfl rfl e3 ?_
  refine ev_tabIn 73 rfl (by decide) (by decide) rfl (by decide) ?_
  refine ev_aload_n rfl rfl rfl ?_
  refine ev_iconst (v := 0) rfl rfl (by decide) ?_
  refine ev_V1D rfl rfl lk_X2_93 vt_X2_addBeat rfl rfl rfl rfl rfl (c_addBeat L b h m hm0 hm _) ?_
  exact ev_iret rfl rfl rfl (⟨rfl, rfl, rfl⟩)

set_option maxRecDepth 100000 in
set_option maxHeartbeats 4000000 in
theorem t_num (L : Nat) (b : Bool) (h : Hp) (wI : Int32) (hw : ¬ wI = 2) (e3 : h 23 3 = 2) : EvD mi_X2_take [.ref 23, .int wI] (G0 L b) h (2) (if z_wi (h 23 5) 1 20 = 0 then ev_set (ev_set h 23 7 3) 23 8 (h 23 4) else h) := by
  refine EvD.of (lo := [some (.ref 23), some (.int wI)]) pf_X2_take ok_X2_take rfl rfl ?_
  refine ev_iload_n rfl rfl rfl ?_
  refine ev_iconst (v := 2) rfl rfl (by decide) ?_
  refine ev_icmp_ne rfl rfl (fun c_2 => ?_) (fun z_ => absurd z_ hw)
  refine ev_aload_n rfl rfl rfl ?_
  refine ev_getV (v := 2) rfl rfl fl_X2_22 rfl rfl rfl e3 ?_
  refine ev_tabIn 79 rfl (by decide) (by decide) rfl (by decide) ?_
  refine ev_aload_n rfl rfl rfl ?_
  refine ev_V0D rfl rfl lk_X2_96 vt_X2_takeNumber rfl rfl rfl rfl rfl (c_takeNumber L b h) ?_
  exact ev_iret rfl rfl rfl (⟨rfl, rfl, rfl⟩)

set_option maxRecDepth 100000 in
set_option maxHeartbeats 4000000 in
theorem t_close (L : Nat) (b : Bool) (h : Hp) (m : Nat) (hm0 : m ≤ 25) (hm : h 23 10 = nI m) (d : Nat) (hd : 0 < d) (hd0 : d ≤ 4) (ed : h 23 13 = nI d) (bn rn : Nat) (hb : bn ≤ m) (hr1 : 1 ≤ rn) (hr : rn ≤ 20) (eb : h 26 (d - 1) = nI bn) (er : h 27 (d - 1) = nI rn) (e3 : h 23 3 = 5) : EvD mi_X2_take [.ref 23, .int 1] (G0 L b) h (1) (k_cls h m d bn rn) := by
  refine EvD.of (lo := [some (.ref 23), some (.int 1)]) pf_X2_take ok_X2_take rfl rfl ?_
  refine ev_iload_n rfl rfl rfl ?_
  refine ev_iconst (v := 2) rfl rfl (by decide) ?_
  refine ev_icmp_ne rfl rfl (fun c_2 => ?_) (fun z_ => absurd z_ (by decide))
  refine ev_aload_n rfl rfl rfl ?_
  refine ev_getV (v := 5) rfl rfl fl_X2_22 rfl rfl rfl e3 ?_
  refine ev_tabIn 84 rfl (by decide) (by decide) rfl (by decide) ?_
  refine ev_iload_n rfl rfl rfl ?_
  refine ev_iconst (v := 1) rfl rfl (by decide) ?_
  refine ev_icmp_ne rfl rfl (fun z_ => absurd (by decide) z_) (fun c_86 => ?_)
  refine ev_aload_n rfl rfl rfl ?_
  refine ev_getI rfl rfl fl_X2_53 rfl rfl rfl ?_
  try simp only [ed]
  refine ev_if_le rfl rfl (fun z_ => absurd z_ (fun z_ => absurd ((nI_le2 (a := d) (b := 0) (by omega) (by decide)).mp z_) (by omega))) (fun c_93 => ?_)
  refine ev_aload_n rfl rfl rfl ?_
  refine ev_V0D rfl rfl lk_X2_99 vt_X2_takeClose rfl rfl rfl rfl rfl (c_takeClose L b h m hm0 hm d hd hd0 ed bn rn hb hr1 hr eb er) ?_
  refine ev_goto rfl rfl ?_
  exact ev_iret rfl rfl rfl (⟨rfl, rfl, rfl⟩)

set_option maxRecDepth 100000 in
set_option maxHeartbeats 4000000 in
theorem t_closeF (L : Nat) (b : Bool) (h : Hp) (wI : Int32) (hw : ¬ wI = 2) (hc : ¬ wI = 1 ∨ h 23 13 ≤ 0) (e3 : h 23 3 = 5) : EvD mi_X2_take [.ref 23, .int wI] (G0 L b) h (3) (ev_set (ev_set h 23 7 2) 23 8 (h 23 4)) := by
  refine EvD.of (lo := [some (.ref 23), some (.int wI)]) pf_X2_take ok_X2_take rfl rfl ?_
  refine ev_iload_n rfl rfl rfl ?_
  refine ev_iconst (v := 2) rfl rfl (by decide) ?_
  refine ev_icmp_ne rfl rfl (fun c_2 => ?_) (fun z_ => absurd z_ hw)
  refine ev_aload_n rfl rfl rfl ?_
  refine ev_getV (v := 5) rfl rfl fl_X2_22 rfl rfl rfl e3 ?_
  refine ev_tabIn 84 rfl (by decide) (by decide) rfl (by decide) ?_
  refine ev_iload_n rfl rfl rfl ?_
  refine ev_iconst (v := 1) rfl rfl (by decide) ?_
  refine ev_icmp_ne rfl rfl (fun c_86 => ?_) (fun c_86 => ?_)
  · refine ev_aload_n rfl rfl rfl ?_
    refine ev_V0D rfl rfl lk_X2_87 vt_X2_misplaced rfl rfl rfl rfl rfl (c_misplaced _ _ _) ?_
    exact ev_iret rfl rfl rfl (⟨rfl, rfl, rfl⟩)
  · refine ev_aload_n rfl rfl rfl ?_
    refine ev_getI rfl rfl fl_X2_53 rfl rfl rfl ?_
    refine ev_if_le rfl rfl (fun c_93 => ?_) (fun c_93 => ?_)
    · refine ev_aload_n rfl rfl rfl ?_
      refine ev_V0D rfl rfl lk_X2_87 vt_X2_misplaced rfl rfl rfl rfl rfl (c_misplaced _ _ _) ?_
      exact ev_iret rfl rfl rfl (⟨rfl, rfl, rfl⟩)
    · exact False.elim (hc.elim (fun z_ => z_ c_86) (fun z_ => c_93 z_))

set_option maxRecDepth 100000 in
set_option maxHeartbeats 4000000 in
theorem t_end (L : Nat) (b : Bool) (h : Hp) (m : Nat) (hm0 : m ≤ 25) (hm : h 23 10 = nI m) (e3 : h 23 3 = 0) (ed : h 23 13 = 0) : EvD mi_X2_take [.ref 23, .int 1] (G0 L b) h (3) (if m ≤ 24 then h else ev_set (ev_set h 23 7 6) 23 8 0) := by
  refine EvD.of (lo := [some (.ref 23), some (.int 1)]) pf_X2_take ok_X2_take rfl rfl ?_
  refine ev_iload_n rfl rfl rfl ?_
  refine ev_iconst (v := 2) rfl rfl (by decide) ?_
  refine ev_icmp_ne rfl rfl (fun c_2 => ?_) (fun z_ => absurd z_ (by decide))
  refine ev_aload_n rfl rfl rfl ?_
  refine ev_getV (v := 0) rfl rfl fl_X2_22 rfl rfl rfl e3 ?_
  refine ev_tabIn 108 rfl (by decide) (by decide) rfl (by decide) ?_
  refine ev_iload_n rfl rfl rfl ?_
  refine ev_iconst (v := 1) rfl rfl (by decide) ?_
  refine ev_icmp_ne rfl rfl (fun z_ => absurd (by decide) z_) (fun c_110 => ?_)
  refine ev_aload_n rfl rfl rfl ?_
  refine ev_getI rfl rfl fl_X2_53 rfl rfl rfl ?_
  try simp only [ed]
  refine ev_if_ne rfl rfl (fun z_ => absurd (show (0 : Int32) = 0 from rfl) z_) (fun c_117 => ?_)
  refine ev_aload_n rfl rfl rfl ?_
  refine ev_V0D rfl rfl lk_X2_102 vt_X2_takeEnd rfl rfl rfl rfl rfl (c_takeEnd L b h m hm0 hm) ?_
  refine ev_goto rfl rfl ?_
  exact ev_iret rfl rfl rfl (⟨rfl, rfl, rfl⟩)

set_option maxRecDepth 100000 in
set_option maxHeartbeats 4000000 in
theorem t_endF (L : Nat) (b : Bool) (h : Hp) (wI : Int32) (hw : ¬ wI = 2) (hc : ¬ wI = 1 ∨ ¬ h 23 13 = 0) (e3 : h 23 3 = 0) : EvD mi_X2_take [.ref 23, .int wI] (G0 L b) h (3) (ev_set (ev_set h 23 7 2) 23 8 (h 23 4)) := by
  refine EvD.of (lo := [some (.ref 23), some (.int wI)]) pf_X2_take ok_X2_take rfl rfl ?_
  refine ev_iload_n rfl rfl rfl ?_
  refine ev_iconst (v := 2) rfl rfl (by decide) ?_
  refine ev_icmp_ne rfl rfl (fun c_2 => ?_) (fun z_ => absurd z_ hw)
  refine ev_aload_n rfl rfl rfl ?_
  refine ev_getV (v := 0) rfl rfl fl_X2_22 rfl rfl rfl e3 ?_
  refine ev_tabIn 108 rfl (by decide) (by decide) rfl (by decide) ?_
  refine ev_iload_n rfl rfl rfl ?_
  refine ev_iconst (v := 1) rfl rfl (by decide) ?_
  refine ev_icmp_ne rfl rfl (fun c_110 => ?_) (fun c_110 => ?_)
  · refine ev_aload_n rfl rfl rfl ?_
    refine ev_V0D rfl rfl lk_X2_87 vt_X2_misplaced rfl rfl rfl rfl rfl (c_misplaced _ _ _) ?_
    exact ev_iret rfl rfl rfl (⟨rfl, rfl, rfl⟩)
  · refine ev_aload_n rfl rfl rfl ?_
    refine ev_getI rfl rfl fl_X2_53 rfl rfl rfl ?_
    refine ev_if_ne rfl rfl (fun c_117 => ?_) (fun c_117 => ?_)
    · refine ev_aload_n rfl rfl rfl ?_
      refine ev_V0D rfl rfl lk_X2_87 vt_X2_misplaced rfl rfl rfl rfl rfl (c_misplaced _ _ _) ?_
      exact ev_iret rfl rfl rfl (⟨rfl, rfl, rfl⟩)
    · exact False.elim (hc.elim (fun z_ => z_ c_110) (fun z_ => z_ c_117))

set_option maxRecDepth 100000 in
set_option maxHeartbeats 4000000 in
theorem t_opn (L : Nat) (b : Bool) (h : Hp) (wI : Int32) (hw : ¬ wI = 2) (e3 : h 23 3 = 4) : EvD mi_X2_take [.ref 23, .int wI] (G0 L b) h (3) (ev_set (ev_set h 23 7 2) 23 8 (h 23 4)) := by
  refine EvD.of (lo := [some (.ref 23), some (.int wI)]) pf_X2_take ok_X2_take rfl rfl ?_
  refine ev_iload_n rfl rfl rfl ?_
  refine ev_iconst (v := 2) rfl rfl (by decide) ?_
  refine ev_icmp_ne rfl rfl (fun c_2 => ?_) (fun z_ => absurd z_ hw)
  refine ev_aload_n rfl rfl rfl ?_
  refine ev_getV (v := 4) rfl rfl fl_X2_22 rfl rfl rfl e3 ?_
  refine ev_tabIn 132 rfl (by decide) (by decide) rfl (by decide) ?_
  refine ev_aload_n rfl rfl rfl ?_
  refine ev_V0D rfl rfl lk_X2_87 vt_X2_misplaced rfl rfl rfl rfl rfl (c_misplaced _ _ _) ?_
  exact ev_iret rfl rfl rfl (⟨rfl, rfl, rfl⟩)

/-- where the class's reader stands -/
def CST (T : Nat → Int32) (n p w v m : Nat) (r : Nat → Int32) (d : Nat) (bg rd : Nat → Nat) (z : Hp) : Prop := z 23 1 = nI n ∧ (∀ j, z 24 j = T j) ∧ z 23 2 = nI p ∧ z 23 7 = 0 ∧ z 23 10 = nI m ∧ (∀ j, z 25 j = r j) ∧ z 23 13 = nI d ∧ (∀ i, i < d → z 26 i = nI (bg i) ∧ z 27 i = nI (rd i)) ∧ (w = 2 → z 23 5 = nI v)
def TKO (T : Nat → Int32) (n : Nat) (o : Option ((Nat × (Nat → Int32)) ⊕ PS)) (ret : Int32) (z : Hp) : Prop := match o with
  | none => ¬ z 23 7 = 0
  | some (.inl x) => z 23 7 = 0 ∧ ret = 3 ∧ z 23 10 = nI x.1 ∧ ∀ j, z 25 j = x.2 j
  | some (.inr (p, w, v, m, r, d, bg, rd)) => ret = nI w ∧ CST T n p w v m r d bg rd z
theorem EvD.ir {mi : MI} {args : List Value} {G : Geo} {h h1 : Hp} {r : Int32} {W : List (Nat × Nat)} {R : Int32 → Hp → Prop} (k : EvD mi args G h r h1) (hJ : JW W h h1) (hr : R r h1) : EvI mi args G h R W := EvM.mono k (fun v G' h' q => by
  obtain ⟨rfl, rfl, rfl⟩ := q
  exact ⟨⟨_, rfl, hr⟩, rfl, hJ⟩)
theorem p_up_B {r : Nat → Int32} {i : Nat} {x : Int32} (h : ∀ j, B (r j) 0 4095) (hx : B x 0 4095) : ∀ j, B (p_up r i x j) 0 4095 := fun j => by
  unfold p_up
  split
  · exact hx
  · exact h j
theorem p_cp_B (o : Nat) : ∀ t i (r : Nat → Int32), (∀ j, B (r j) 0 4095) → ∀ j, B (p_cp o t i r j) 0 4095
  | 0, _, _, h => h
  | t + 1, i, r, h => by
    unfold p_cp
    exact p_cp_B o t _ _ (p_up_B h (h _))
theorem JW.row {W : List (Nat × Nat)} {h0 h : Hp} {r : Nat → Int32} (hJ : JW W h0 h) (hb : ∀ j, B (r j) 0 4095) (hw : ∀ j, wm W 25 j = true) : JW W h0 (h_row h r) := by
  refine ⟨fun i j => ?_, fun i j q => ?_⟩
  · unfold h_row
    split
    · rename_i e; rw [e]; exact hb j
    · exact hJ.1 i j
  · unfold h_row
    rw [if_neg (fun e => by rw [e, hw j] at q; cases q)]
    exact hJ.2 i j q
theorem jw_ab {h0 h : Hp} (hJ : JW [(23, 2), (23, 3), (23, 4), (23, 5), (23, 6), (23, 7), (23, 8), (23, 10), (23, 13), (25, 999), (26, 999), (27, 999)] h0 h) {m : Nat} (hm : m ≤ 25) {c : Int32} (hc : B c 0 4095) : JW [(23, 2), (23, 3), (23, 4), (23, 5), (23, 6), (23, 7), (23, 8), (23, 10), (23, 13), (25, 999), (26, 999), (27, 999)] h0 (k_ab h m c) := by
  have z := p_mn_le m hm
  unfold k_ab
  split
  · exact (hJ.set rfl hc).set rfl (nI_25 (by omega))
  · exact hJ.set rfl (nI_25 (by omega))
theorem k_ab_ne {h : Hp} {m i j : Nat} {c : Int32} (h1 : i ≠ 25) (h2 : ¬ (i = 23 ∧ j = 10)) : k_ab h m c i j = h i j := by
  unfold k_ab
  split
  · unfold ev_set
    rw [if_neg h2, if_neg (fun z => h1 z.1)]
  · unfold ev_set
    rw [if_neg h2]
theorem k_ab_10 (h : Hp) (m : Nat) (c : Int32) : k_ab h m c 23 10 = nI (p_mn m) := by
  unfold k_ab
  split <;> exact ev_rd1 _ _ _ _
theorem k_ab_25 {h : Hp} {m : Nat} {c : Int32} {r : Nat → Int32} (e : ∀ j, h 25 j = r j) (j : Nat) : k_ab h m c 25 j = p_ad r m c j := by
  unfold k_ab p_ad p_up
  split
  · rw [ev_rd2 (by decide)]
    unfold ev_set
    show _ = (if j = m then c else r j)
    by_cases q : j = m
    · rw [if_pos ⟨rfl, q⟩, if_pos q]
    · rw [if_neg (fun z => q z.2), if_neg q, e j]
  · rw [ev_rd2 (by decide), e j]
theorem cs_ab {T : Nat → Int32} {n p w v m d : Nat} {r : Nat → Int32} {bg rd : Nat → Nat} {h : Hp} {c : Int32} (hc : CST T n p w v m r d bg rd h) : CST T n p 1 0 (p_mn m) (p_ad r m c) d bg rd (k_ab h m c) := by
  obtain ⟨a1, a2, a3, a4, a5, a6, a7, a8, -⟩ := hc
  refine ⟨?_, fun j => ?_, ?_, ?_, k_ab_10 _ _ _, k_ab_25 a6, ?_, fun i hi => ⟨?_, ?_⟩, fun z => absurd z (by decide)⟩
  · rw [k_ab_ne (by decide) (by decide)]; exact a1
  · rw [k_ab_ne (by decide) (fun z => absurd z.1 (by decide))]; exact a2 j
  · rw [k_ab_ne (by decide) (by decide)]; exact a3
  · rw [k_ab_ne (by decide) (by decide)]; exact a4
  · rw [k_ab_ne (by decide) (by decide)]; exact a7
  · rw [k_ab_ne (by decide) (fun z => absurd z.1 (by decide))]; exact (a8 i hi).1
  · rw [k_ab_ne (by decide) (fun z => absurd z.1 (by decide))]; exact (a8 i hi).2
theorem w_takeC (L : Nat) (b : Bool) (h : Hp) (hB : Bx h) (T : Nat → Int32) (n p w v m : Nat) (r : Nat → Int32) (d : Nat) (bg rd : Nat → Nat) (v0 : Int32) (o : Option (Nat × Int32 × Nat)) (ho : TKP v0 o h) (h5 : ∀ x, o = some x → x.1 ≤ 5) (hc : CST T n p 0 0 m r d bg rd h) (hv : w = 2 → v0 = nI v) (hI : PI w v m d bg rd) : EvI mi_X2_take [.ref 23, .int (nI w)] (G0 L b) h (TKO T n (p_stp o w v m r d bg rd)) [(23, 2), (23, 3), (23, 4), (23, 5), (23, 6), (23, 7), (23, 8), (23, 10), (23, 13), (25, 999), (26, 999), (27, 999)] := by
  obtain ⟨a1, a2, a3, a4, a5, a6, a7, a8, -⟩ := hc
  obtain ⟨i1, i2, i3, i4, i5⟩ := hI
  have JF : ∀ x y : Int32, JW [(23, 2), (23, 3), (23, 4), (23, 5), (23, 6), (23, 7), (23, 8), (23, 10), (23, 13), (25, 999), (26, 999), (27, 999)] h (ev_set (ev_set h 23 7 x) 23 8 y) := fun x y => ((JW.refl hB).set rfl (B.any _)).set rfl (B.any _)
  have hv5 : B (h 23 5) 0 4095 := hB 23 5
  have hw2 : ¬ w = 2 → ¬ nI w = 2 := fun q z => q ((nI_eq (a := w) (b := 2) (by omega) (by decide)).mp z)
  cases o with
  | none =>
    rcases ho with q | ⟨q, q6⟩
    · exact absurd a4 q
    · by_cases hw : w = 2
      · subst hw
        exact (t_mis2 L b h (by rw [q]; decide)).ir (JF _ _) (by show ¬ _ = _; simp (disch := decide) only [ev_rd1, ev_rd2, ev_rd3]; decide)
      · refine (t_chordS L b h m i2 a5 (nI w) (hw2 hw) q q6).ir (jw_ab (JF _ _) i2 hv5) ?_
        show ¬ _ = _
        rw [k_ab_ne (by decide) (by decide)]
        simp (disch := decide) only [ev_rd1, ev_rd2, ev_rd3]
        decide
  | some x =>
    obtain ⟨t, xv, xe⟩ := x
    have ht5 : t ≤ 5 := h5 _ rfl
    obtain ⟨b1, b2, b3, b4, b5, b6⟩ := ho
    have hcs : CST T n xe 0 0 m r d bg rd h := ⟨a1, a2, b3, a4, a5, a6, a7, a8, fun z => absurd z (by decide)⟩
    by_cases hw : w = 2
    · subst hw
      by_cases ht : t = 4
      · subst ht
        by_cases hd : d < 4
        · have e : p_stp (some (4, xv, xe)) 2 v m r d bg rd = some (.inr (xe, 0, 0, m, r, d + 1, p_un bg d m, p_un rd d v)) := by
            unfold p_stp
            dsimp only
            rw [if_pos rfl, if_pos rfl, if_pos hd]
          rw [e]
          have ev : h 23 5 = nI v := (b6 (by decide)).trans (hv rfl)
          refine (t_open L b h m i2 a5 d hd a7 b2).ir ((((JW.refl hB).set rfl (nI_25 i2)).set rfl hv5).set rfl (nI_4 (by omega))) ?_
          refine ⟨rfl, ?_, fun j => ?_, ?_, ?_, ?_, fun j => ?_, ?_, fun i hi => ⟨?_, ?_⟩, fun z => absurd z (by decide)⟩
          · simp (disch := decide) only [ev_rd1, ev_rd2, ev_rd3]; exact a1
          · simp (disch := decide) only [ev_rd1, ev_rd2, ev_rd3]; exact a2 j
          · simp (disch := decide) only [ev_rd1, ev_rd2, ev_rd3]; exact b3
          · simp (disch := decide) only [ev_rd1, ev_rd2, ev_rd3]; exact a4
          · simp (disch := decide) only [ev_rd1, ev_rd2, ev_rd3]; exact a5
          · simp (disch := decide) only [ev_rd1, ev_rd2, ev_rd3]; exact a6 j
          · simp (disch := decide) only [ev_rd1, ev_rd2, ev_rd3]
          · rw [ev_rd2 (by decide), ev_rd2 (by decide), ev_sj]
            unfold p_un
            by_cases q : i = d
            · rw [if_pos q, if_pos q]
            · rw [if_neg q, if_neg q]; exact (a8 i (by omega)).1
          · rw [ev_rd2 (by decide), ev_sj]
            unfold p_un
            by_cases q : i = d
            · rw [if_pos q, if_pos q]; exact ev
            · rw [if_neg q, if_neg q, ev_rd2 (by decide)]; exact (a8 i (by omega)).2
        · have e : p_stp (some (4, xv, xe)) 2 v m r d bg rd = none := by
            unfold p_stp
            dsimp only
            rw [if_pos rfl, if_pos rfl, if_neg hd]
          rw [e]
          exact (t_openF L b h d (by omega) i3 a7 b2).ir (JF _ _) (by show ¬ _ = _; simp (disch := decide) only [ev_rd1, ev_rd2, ev_rd3]; decide)
      · have e : p_stp (some (t, xv, xe)) 2 v m r d bg rd = none := by
          unfold p_stp
          dsimp only
          rw [if_pos rfl, if_neg ht]
        rw [e]
        exact (t_mis2 L b h (fun z => ht ((nI_eq (a := t) (b := 4) (by omega) (by decide)).mp (b2.symm.trans z)))).ir (JF _ _) (by show ¬ _ = _; simp (disch := decide) only [ev_rd1, ev_rd2, ev_rd3]; decide)
    · have hwI := hw2 hw
      by_cases h1 : t = 1
      · subst h1
        have e : p_stp (some (1, xv, xe)) w v m r d bg rd = some (.inr (xe, 1, 0, p_mn m, p_ad r m xv, d, bg, rd)) := by
          unfold p_stp
          dsimp only
          rw [if_neg hw, if_pos rfl]
        rw [e]
        have z5 := (b4 rfl).1
        have z6 := (b4 rfl).2
        have zz := cs_ab (c := h 23 5) hcs
        rw [z5] at zz
        exact (t_chord L b h m i2 a5 (nI w) hwI b2 z6).ir (jw_ab (JW.refl hB) i2 hv5) ⟨rfl, by rw [z5]; exact zz⟩
      by_cases h3 : t = 3
      · subst h3
        have e : p_stp (some (3, xv, xe)) w v m r d bg rd = some (.inr (xe, 1, 0, p_mn m, p_ad r m 0, d, bg, rd)) := by
          unfold p_stp
          dsimp only
          rw [if_neg hw, if_neg (by decide), if_pos rfl]
        rw [e]
        exact (t_rest L b h m i2 a5 (nI w) hwI b2).ir (jw_ab (JW.refl hB) i2 (by decide)) ⟨rfl, cs_ab hcs⟩
      by_cases h2 : t = 2
      · subst h2
        have z5 := b5 rfl
        by_cases hz : z_wi xv 1 20 = 0
        · have e : p_stp (some (2, xv, xe)) w v m r d bg rd = none := by
            unfold p_stp
            dsimp only
            rw [if_neg hw, if_neg (by decide), if_neg (by decide), if_pos rfl, if_pos hz]
          rw [e]
          have hz2 : z_wi (h 23 5) 1 20 = 0 := by rw [z5]; exact hz
          exact ((t_num L b h (nI w) hwI b2).to rfl (if_pos hz2)).ir (JF _ _) (by show ¬ _ = _; simp (disch := decide) only [ev_rd1, ev_rd2, ev_rd3]; decide)
        · have e : p_stp (some (2, xv, xe)) w v m r d bg rd = some (.inr (xe, 2, xv.toNatClampNeg, m, r, d, bg, rd)) := by
            unfold p_stp
            dsimp only
            rw [if_neg hw, if_neg (by decide), if_neg (by decide), if_pos rfl, if_neg hz]
          rw [e]
          have hz2 : ¬ z_wi (h 23 5) 1 20 = 0 := by rw [z5]; exact hz
          exact ((t_num L b h (nI w) hwI b2).to rfl (if_neg hz2)).ir (JW.refl hB) ⟨rfl, a1, a2, b3, a4, a5, a6, a7, a8, fun _ => z5.trans (z_num hz).1⟩
      by_cases h5' : t = 5
      · subst h5'
        by_cases hcl : w = 1 ∧ 0 < d
        · obtain ⟨hw1, hd⟩ := hcl
          subst hw1
          have q8 := a8 (d - 1) (by omega)
          have q5 := i5 (d - 1) (by omega)
          have TC := t_close L b h m i2 a5 d hd i3 a7 (bg (d - 1)) (rd (d - 1)) q5.1 q5.2.1 q5.2.2 q8.1 q8.2 b2
          by_cases hl : 24 < m ∨ 24 < p_all m (bg (d - 1)) (rd (d - 1))
          · have e : p_stp (some (5, xv, xe)) 1 v m r d bg rd = some (.inr (xe, 1, 0, 25, r, d - 1, bg, rd)) := by
              unfold p_stp
              dsimp only
              rw [if_neg (by decide), if_neg (by decide), if_neg (by decide), if_neg (by decide), if_pos rfl, if_pos ⟨rfl, hd⟩, if_pos hl]
            rw [e]
            refine (TC.to rfl (show k_cls h m d _ _ = _ from if_pos hl)).ir (((JW.refl hB).set rfl (nI_4 (by omega))).set rfl (by decide)) ?_
            refine ⟨rfl, ?_, fun j => ?_, ?_, ?_, ?_, fun j => ?_, ?_, fun i hi => ⟨?_, ?_⟩, fun z => absurd z (by decide)⟩
            · simp (disch := decide) only [ev_rd1, ev_rd2, ev_rd3]; exact a1
            · simp (disch := decide) only [ev_rd1, ev_rd2, ev_rd3]; exact a2 j
            · simp (disch := decide) only [ev_rd1, ev_rd2, ev_rd3]; exact b3
            · simp (disch := decide) only [ev_rd1, ev_rd2, ev_rd3]; exact a4
            · simp (disch := decide) only [ev_rd1, ev_rd2, ev_rd3]; rfl
            · simp (disch := decide) only [ev_rd1, ev_rd2, ev_rd3]; exact a6 j
            · simp (disch := decide) only [ev_rd1, ev_rd2, ev_rd3]
            · simp (disch := decide) only [ev_rd1, ev_rd2, ev_rd3]; exact (a8 i (by omega)).1
            · simp (disch := decide) only [ev_rd1, ev_rd2, ev_rd3]; exact (a8 i (by omega)).2
          · have e : p_stp (some (5, xv, xe)) 1 v m r d bg rd = some (.inr (xe, 1, 0, p_all m (bg (d - 1)) (rd (d - 1)), p_cp (m - bg (d - 1)) (p_all m (bg (d - 1)) (rd (d - 1)) - m) m r, d - 1, bg, rd)) := by
              unfold p_stp
              dsimp only
              rw [if_neg (by decide), if_neg (by decide), if_neg (by decide), if_neg (by decide), if_pos rfl, if_pos ⟨rfl, hd⟩, if_neg hl]
            rw [e]
            have er : h 25 = r := funext a6
            refine (TC.to rfl (show k_cls h m d _ _ = _ from if_neg hl)).ir ((JW.row ((JW.refl hB).set rfl (nI_4 (by omega))) (p_cp_B _ _ _ _ (fun j => hB 25 j)) (fun _ => rfl)).set rfl (nI_25 (by omega))) ?_
            refine ⟨rfl, ?_, fun j => ?_, ?_, ?_, ?_, fun j => ?_, ?_, fun i hi => ⟨?_, ?_⟩, fun z => absurd z (by decide)⟩
            · simp (disch := decide) only [ev_rd1, ev_rd2, ev_rd3, h_row_ne]; exact a1
            · simp (disch := decide) only [ev_rd1, ev_rd2, ev_rd3, h_row_ne]; exact a2 j
            · simp (disch := decide) only [ev_rd1, ev_rd2, ev_rd3, h_row_ne]; exact b3
            · simp (disch := decide) only [ev_rd1, ev_rd2, ev_rd3, h_row_ne]; exact a4
            · simp (disch := decide) only [ev_rd1, ev_rd2, ev_rd3]
            · rw [ev_rd2 (by decide), h_row_25, er]
            · simp (disch := decide) only [ev_rd1, ev_rd2, ev_rd3, h_row_ne]
            · simp (disch := decide) only [ev_rd1, ev_rd2, ev_rd3, h_row_ne]; exact (a8 i (by omega)).1
            · simp (disch := decide) only [ev_rd1, ev_rd2, ev_rd3, h_row_ne]; exact (a8 i (by omega)).2
        · have e : p_stp (some (5, xv, xe)) w v m r d bg rd = none := by
            unfold p_stp
            dsimp only
            rw [if_neg hw, if_neg (by decide), if_neg (by decide), if_neg (by decide), if_pos rfl, if_neg hcl]
          rw [e]
          refine (t_closeF L b h (nI w) hwI ?_ b2).ir (JF _ _) (by show ¬ _ = _; simp (disch := decide) only [ev_rd1, ev_rd2, ev_rd3]; decide)
          by_cases hw1 : w = 1
          · refine Or.inr ?_
            rw [a7, show d = 0 by omega]
            decide
          · exact Or.inl (fun z => hw1 ((nI_eq (a := w) (b := 1) (by omega) (by decide)).mp z))
      by_cases h0 : t = 0
      · subst h0
        by_cases hcl : w = 1 ∧ d = 0
        · obtain ⟨hw1, hd⟩ := hcl
          subst hw1
          have ed : h 23 13 = 0 := by rw [a7, hd]; rfl
          by_cases hl : m ≤ 24
          · have e : p_stp (some (0, xv, xe)) 1 v m r d bg rd = some (.inl (m, r)) := by
              unfold p_stp
              dsimp only
              rw [if_neg (by decide), if_neg (by decide), if_neg (by decide), if_neg (by decide), if_neg (by decide), if_pos rfl, if_pos ⟨rfl, hd⟩, if_pos hl]
            rw [e]
            exact ((t_end L b h m i2 a5 b2 ed).to rfl (if_pos hl)).ir (JW.refl hB) ⟨a4, rfl, a5, a6⟩
          · have e : p_stp (some (0, xv, xe)) 1 v m r d bg rd = none := by
              unfold p_stp
              dsimp only
              rw [if_neg (by decide), if_neg (by decide), if_neg (by decide), if_neg (by decide), if_neg (by decide), if_pos rfl, if_pos ⟨rfl, hd⟩, if_neg hl]
            rw [e]
            exact ((t_end L b h m i2 a5 b2 ed).to rfl (if_neg hl)).ir (JF _ _) (by show ¬ _ = _; simp (disch := decide) only [ev_rd1, ev_rd2, ev_rd3]; decide)
        · have e : p_stp (some (0, xv, xe)) w v m r d bg rd = none := by
            unfold p_stp
            dsimp only
            rw [if_neg hw, if_neg (by decide), if_neg (by decide), if_neg (by decide), if_neg (by decide), if_pos rfl, if_neg hcl]
          rw [e]
          refine (t_endF L b h (nI w) hwI ?_ b2).ir (JF _ _) (by show ¬ _ = _; simp (disch := decide) only [ev_rd1, ev_rd2, ev_rd3]; decide)
          by_cases hw1 : w = 1
          · refine Or.inr (fun z => hcl ⟨hw1, ?_⟩)
            exact (nI_eq (a := d) (b := 0) (by omega) (by decide)).mp (a7.symm.trans z)
          · exact Or.inl (fun z => hw1 ((nI_eq (a := w) (b := 1) (by omega) (by decide)).mp z))
      · have h4 : t = 4 := by omega
        subst h4
        have e : p_stp (some (4, xv, xe)) w v m r d bg rd = none := by
          unfold p_stp
          dsimp only
          rw [if_neg hw, if_neg (by decide), if_neg (by decide), if_neg (by decide), if_neg (by decide), if_neg (by decide)]
        rw [e]
        exact (t_opn L b h (nI w) hwI b2).ir (JF _ _) (by show ¬ _ = _; simp (disch := decide) only [ev_rd1, ev_rd2, ev_rd3]; decide)

def RAP (o : Option (Nat × (Nat → Int32))) (z : Hp) : Prop := match o with
  | none => ¬ z 23 7 = 0
  | some x => z 23 7 = 0 ∧ z 23 10 = nI x.1 ∧ ∀ j, z 25 j = x.2 j

set_option maxRecDepth 100000 in
set_option maxHeartbeats 4000000 in
theorem l_raX (L : Nat) (b : Bool) (h h1 : Hp) (R : Hp → Prop) (wI cI : Int32) (hJ : JW [(23, 2), (23, 3), (23, 4), (23, 5), (23, 6), (23, 7), (23, 8), (23, 10), (23, 13), (25, 999), (26, 999), (27, 999)] h h1) (hx : ¬ h1 23 7 = 0 ∨ wI = 3) (hR : R h1) : EvQ mi_X2_readAll 29 [some (.ref 23), some (.int wI), some (.int cI)] [] (G0 L b) h1 0 0 (QK R [(23, 2), (23, 3), (23, 4), (23, 5), (23, 6), (23, 7), (23, 8), (23, 10), (23, 13), (25, 999), (26, 999), (27, 999)] (G0 L b) h) := by
  refine ev_iload_n rfl rfl rfl ?_
  refine ev_aload_n rfl rfl rfl ?_
  refine ev_getI rfl rfl fl_X2_15 rfl rfl rfl ?_
  refine ev_icmp_gt rfl rfl (fun c_34 => ?_) (fun c_34 => ?_)
  · exact ev_vret rfl rfl trivial (⟨rfl, rfl, hJ, hR⟩)
  · refine ev_iload_n rfl rfl rfl ?_
    refine ev_iconst (v := 3) rfl rfl (by decide) ?_
    refine ev_icmp_eq rfl rfl (fun c_39 => ?_) (fun c_39 => ?_)
    · exact ev_vret rfl rfl trivial (⟨rfl, rfl, hJ, hR⟩)
    · refine ev_aload_n rfl rfl rfl ?_
      refine ev_getI rfl rfl fl_X2_34 rfl rfl rfl ?_
      refine ev_if_ne rfl rfl (fun c_46 => ?_) (fun c_46 => ?_)
      · exact ev_vret rfl rfl trivial (⟨rfl, rfl, hJ, hR⟩)
      · exact False.elim (hx.elim (fun z_ => z_ c_46) (fun z_ => c_39 z_))

set_option maxRecDepth 100000 in
set_option maxHeartbeats 4000000 in
theorem l_readAll (L : Nat) (b : Bool) (h : Hp) (T : Nat → Int32) (n : Nat) (hn : n ≤ 160) : ∀ (k cn p w v m : Nat) (r : Nat → Int32) (d : Nat) (bg rd : Nat → Nat) (h1 : Hp), k + cn = n + 1 → cn ≤ p → p ≤ n → JW [(23, 2), (23, 3), (23, 4), (23, 5), (23, 6), (23, 7), (23, 8), (23, 10), (23, 13), (25, 999), (26, 999), (27, 999)] h h1 → CST T n p w v m r d bg rd h1 → PI w v m d bg rd → EvQ mi_X2_readAll 29 [some (.ref 23), some (.int (nI w)), some (.int (nI cn))] [] (G0 L b) h1 0 0 (QK (RAP (p_run T n k (p, w, v, m, r, d, bg, rd))) [(23, 2), (23, 3), (23, 4), (23, 5), (23, 6), (23, 7), (23, 8), (23, 10), (23, 13), (25, 999), (26, 999), (27, 999)] (G0 L b) h) := by
  intro k
  induction k with
  | zero =>
    intro cn p w v m r d bg rd h1 hk hcn hp hJ hc hI
    exact absurd hcn (by omega)
  | succ k ih =>
    intro cn p w v m r d bg rd h1 hk hcn hp hJ hc hI
    obtain ⟨a1, a2, a3, a4, a5, a6, a7, a8, a9⟩ := hc
    obtain ⟨i1, -, -, -, -⟩ := id hI
    refine ev_iload_n rfl rfl rfl ?_
    refine ev_aload_n rfl rfl rfl ?_
    refine ev_getI rfl rfl fl_X2_15 rfl rfl rfl ?_
    try simp only [a1, a4]
    refine ev_icmp_gt rfl rfl (fun z_ => absurd z_ (fun z_ => absurd ((nI_lt2 (by omega) (by omega)).mp z_) (by omega))) (fun c_34 => ?_)
    refine ev_iload_n rfl rfl rfl ?_
    refine ev_iconst (v := 3) rfl rfl (by decide) ?_
    refine ev_icmp_eq rfl rfl (fun z_ => absurd z_ (fun z_ => absurd ((nI_eq (a := w) (b := 3) (by omega) (by decide)).mp z_) (by omega))) (fun c_39 => ?_)
    refine ev_aload_n rfl rfl rfl ?_
    refine ev_getI rfl rfl fl_X2_34 rfl rfl rfl ?_
    try simp only [a1, a4]
    refine ev_if_ne rfl rfl (fun z_ => absurd (show (0 : Int32) = 0 from rfl) z_) (fun c_46 => ?_)
    refine ev_aload_n rfl rfl rfl ?_
    refine ev_V0K hJ rfl rfl rfl lk_X2_56 vt_X2_readToken rfl rfl rfl rfl rfl (w_readTokenC L b h1 hJ.1 T n p hn hp a1 a2 a3 a4) (fun h2 j2 k2 m2 => ?_)
    refine ev_aload_n rfl rfl rfl ?_
    refine ev_getI rfl rfl fl_X2_34 rfl rfl rfl ?_
    try simp only [a1, a4]
    refine ev_if_ne rfl rfl (fun c_57 => ?_) (fun c_57 => ?_)
    · refine ev_iinc (y := 1) rfl rfl rfl (by decide) rfl rfl ?_
      dsimp only [List.set]
      refine ev_goto rfl rfl ?_
      have eo : p_tok T n p = none := by
        cases e : p_tok T n p with
        | none => rfl
        | some x => rw [e] at m2; exact absurd m2.1 c_57
      have er : p_run T n (k + 1) (p, w, v, m, r, d, bg, rd) = none := by
        unfold p_run
        rw [eo]
        rfl
      rw [er]
      exact l_raX L b h h2 _ _ _ j2 (Or.inl c_57) c_57
    · have hc2 : CST T n (h2 23 2).toNatClampNeg 0 0 m r d bg rd h2 := ⟨(k2.2 23 1 rfl).trans a1, fun j => (k2.2 24 j rfl).trans (a2 j), (B.nI (u := 160) (j2.1 23 2)).1, c_57, (k2.2 23 10 rfl).trans a5, fun j => (k2.2 25 j rfl).trans (a6 j), (k2.2 23 13 rfl).trans a7, fun i hi => ⟨(k2.2 26 i rfl).trans (a8 i hi).1, (k2.2 27 i rfl).trans (a8 i hi).2⟩, fun z => absurd z (by decide)⟩
      refine ev_aload_n rfl rfl rfl ?_
      refine ev_iload_n rfl rfl rfl ?_
      refine ev_V1I j2 rfl rfl rfl lk_X2_59 vt_X2_take rfl rfl rfl rfl rfl (w_takeC L b h2 j2.1 T n (h2 23 2).toNatClampNeg w v m r d bg rd (h1 23 5) (p_tok T n p) m2 (fun x hx => (p_tok_e (v := x.2.1) (e := x.2.2) hp hx).2.2) hc2 a9 hI) (fun r1 h3 m3 j3 k3 => ?_)
      refine ev_istore_n rfl rfl rfl rfl ?_
      dsimp only [List.set]
      refine ev_iinc (y := 1) rfl rfl rfl (by decide) rfl rfl ?_
      dsimp only [List.set]
      refine ev_goto rfl rfl ?_
      cases es : p_stp (p_tok T n p) w v m r d bg rd with
      | none =>
        rw [es] at m3
        rw [p_run_n es]
        exact l_raX L b h h3 _ _ _ j3 (Or.inl m3) m3
      | some y =>
        rw [es] at m3
        cases y with
        | inl x =>
          obtain ⟨f1, f2, f3, f4⟩ := m3
          rw [p_run_l es]
          exact l_raX L b h h3 _ _ _ j3 (Or.inr f2) ⟨f1, f3, f4⟩
        | inr s =>
          obtain ⟨p', w', v', m', r', d', bg', rd'⟩ := s
          obtain ⟨f1, f2⟩ := m3
          have g := PI.stp hp hI es
          rw [p_run_r es, nI_1 cn, f1]
          exact ih (cn + 1) p' w' v' m' r' d' bg' rd' h3 (by omega) (by omega) g.2.2 j3 f2 g.1

set_option maxRecDepth 100000 in
set_option maxHeartbeats 4000000 in
theorem w_readAllC (L : Nat) (b : Bool) (h : Hp) (hB : Bx h) (T : Nat → Int32) (n : Nat) (hn : n ≤ 160) (e1 : h 23 1 = nI n) (eT : ∀ j, h 24 j = T j) : EvK mi_X2_readAll [.ref 23] (G0 L b) h (RAP (p_run T n (n + 1) (0, 0, 0, 0, h 25, 0, (fun _ => 0), (fun _ => 0)))) [(23, 2), (23, 3), (23, 4), (23, 5), (23, 6), (23, 7), (23, 8), (23, 10), (23, 13), (25, 999), (26, 999), (27, 999)] := by
  refine EvM.of2 (lo := [some (.ref 23), none, none]) pf_X2_readAll ok_X2_readAll rfl rfl ?_
  refine ev_aload_n rfl rfl rfl ?_
  refine ev_iconst (v := 0) rfl rfl (by decide) ?_
  refine ev_putI rfl rfl fl_X2_19 rfl rfl rfl rfl rfl ?_
  refine ev_aload_n rfl rfl rfl ?_
  refine ev_iconst (v := 0) rfl rfl (by decide) ?_
  refine ev_putI rfl rfl fl_X2_34 rfl rfl rfl rfl rfl ?_
  refine ev_aload_n rfl rfl rfl ?_
  refine ev_iconst (v := 0) rfl rfl (by decide) ?_
  refine ev_putI rfl rfl fl_X2_37 rfl rfl rfl rfl rfl ?_
  refine ev_aload_n rfl rfl rfl ?_
  refine ev_iconst (v := 0) rfl rfl (by decide) ?_
  refine ev_putI rfl rfl fl_X2_44 rfl rfl rfl rfl rfl ?_
  refine ev_aload_n rfl rfl rfl ?_
  refine ev_iconst (v := 0) rfl rfl (by decide) ?_
  refine ev_putI rfl rfl fl_X2_53 rfl rfl rfl rfl rfl ?_
  refine ev_iconst (v := 0) rfl rfl (by decide) ?_
  refine ev_istore_n rfl rfl rfl rfl ?_
  dsimp only [List.set]
  refine ev_iconst (v := 0) rfl rfl (by decide) ?_
  refine ev_istore_n rfl rfl rfl rfl ?_
  dsimp only [List.set]
  exact l_readAll L b h T n hn (n + 1) 0 0 0 0 0 (h 25) 0 (fun _ => 0) (fun _ => 0) _ (by omega) (by omega) (by omega) ((((((JW.refl hB).set rfl (by decide)).set rfl (B.any _)).set rfl (B.any _)).set rfl (by decide)).set rfl (by decide)) ⟨by simp (disch := decide) only [ev_rd1, ev_rd2, ev_rd3]; exact e1, fun j => by simp (disch := decide) only [ev_rd1, ev_rd2, ev_rd3]; exact eT j, by simp (disch := decide) only [ev_rd1, ev_rd2, ev_rd3]; rfl, by simp (disch := decide) only [ev_rd1, ev_rd2, ev_rd3], by simp (disch := decide) only [ev_rd1, ev_rd2, ev_rd3]; rfl, fun j => by simp (disch := decide) only [ev_rd1, ev_rd2, ev_rd3], by simp (disch := decide) only [ev_rd1, ev_rd2, ev_rd3]; rfl, fun i hi => absurd hi (by omega), fun z => absurd z (by decide)⟩ ⟨by omega, by omega, by omega, fun z => absurd z (by decide), fun i hi => absurd hi (by omega)⟩

