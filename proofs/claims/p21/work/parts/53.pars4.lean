theorem st_1 {w v m d e : Nat} {x : Int32} {r : Nat → Int32} {bg rd : Nat → Nat} (hw : ¬ w = 2) : p_stp (some (1, x, e)) w v m r d bg rd = some (.inr (e, 1, 0, p_mn m, p_ad r m x, d, bg, rd)) := by
  unfold p_stp
  dsimp only
  rw [if_neg hw, if_pos rfl]

theorem st_3 {w v m d e : Nat} {x : Int32} {r : Nat → Int32} {bg rd : Nat → Nat} (hw : ¬ w = 2) : p_stp (some (3, x, e)) w v m r d bg rd = some (.inr (e, 1, 0, p_mn m, p_ad r m 0, d, bg, rd)) := by
  unfold p_stp
  dsimp only
  rw [if_neg hw, if_neg (by decide), if_pos rfl]

theorem st_2z {w v m d e : Nat} {x : Int32} {r : Nat → Int32} {bg rd : Nat → Nat} (hw : ¬ w = 2) (hz : z_wi x 1 20 = 0) : p_stp (some (2, x, e)) w v m r d bg rd = none := by
  unfold p_stp
  dsimp only
  rw [if_neg hw, if_neg (by decide), if_neg (by decide), if_pos rfl, if_pos hz]

theorem st_2 {w v m d e : Nat} {x : Int32} {r : Nat → Int32} {bg rd : Nat → Nat} (hw : ¬ w = 2) (hz : ¬ z_wi x 1 20 = 0) : p_stp (some (2, x, e)) w v m r d bg rd = some (.inr (e, 2, x.toNatClampNeg, m, r, d, bg, rd)) := by
  unfold p_stp
  dsimp only
  rw [if_neg hw, if_neg (by decide), if_neg (by decide), if_pos rfl, if_neg hz]

theorem st_5z {w v m d e : Nat} {x : Int32} {r : Nat → Int32} {bg rd : Nat → Nat} (hw : ¬ w = 2) (hc : ¬ (w = 1 ∧ 0 < d)) : p_stp (some (5, x, e)) w v m r d bg rd = none := by
  unfold p_stp
  dsimp only
  rw [if_neg hw, if_neg (by decide), if_neg (by decide), if_neg (by decide), if_pos rfl, if_neg hc]

theorem st_5b {v m d e : Nat} {x : Int32} {r : Nat → Int32} {bg rd : Nat → Nat} (hd : 0 < d) (hl : 24 < m ∨ 24 < p_all m (bg (d - 1)) (rd (d - 1))) : p_stp (some (5, x, e)) 1 v m r d bg rd = some (.inr (e, 1, 0, 25, r, d - 1, bg, rd)) := by
  unfold p_stp
  dsimp only
  rw [if_neg (by decide), if_neg (by decide), if_neg (by decide), if_neg (by decide), if_pos rfl, if_pos ⟨rfl, hd⟩, if_pos hl]

theorem st_5 {v m d e : Nat} {x : Int32} {r : Nat → Int32} {bg rd : Nat → Nat} (hd : 0 < d) (hl : ¬ (24 < m ∨ 24 < p_all m (bg (d - 1)) (rd (d - 1)))) : p_stp (some (5, x, e)) 1 v m r d bg rd = some (.inr (e, 1, 0, p_all m (bg (d - 1)) (rd (d - 1)), p_cp (m - bg (d - 1)) (p_all m (bg (d - 1)) (rd (d - 1)) - m) m r, d - 1, bg, rd)) := by
  unfold p_stp
  dsimp only
  rw [if_neg (by decide), if_neg (by decide), if_neg (by decide), if_neg (by decide), if_pos rfl, if_pos ⟨rfl, hd⟩, if_neg hl]

theorem st_0z {w v m d e : Nat} {x : Int32} {r : Nat → Int32} {bg rd : Nat → Nat} (hw : ¬ w = 2) (hc : ¬ (w = 1 ∧ d = 0)) : p_stp (some (0, x, e)) w v m r d bg rd = none := by
  unfold p_stp
  dsimp only
  rw [if_neg hw, if_neg (by decide), if_neg (by decide), if_neg (by decide), if_neg (by decide), if_pos rfl, if_neg hc]

theorem st_0b {v m d e : Nat} {x : Int32} {r : Nat → Int32} {bg rd : Nat → Nat} (hd : d = 0) (hm : ¬ m ≤ 24) : p_stp (some (0, x, e)) 1 v m r d bg rd = none := by
  unfold p_stp
  dsimp only
  rw [if_neg (by decide), if_neg (by decide), if_neg (by decide), if_neg (by decide), if_neg (by decide), if_pos rfl, if_pos ⟨rfl, hd⟩, if_neg hm]

theorem st_0 {v m d e : Nat} {x : Int32} {r : Nat → Int32} {bg rd : Nat → Nat} (hd : d = 0) (hm : m ≤ 24) : p_stp (some (0, x, e)) 1 v m r d bg rd = some (.inl (m, r)) := by
  unfold p_stp
  dsimp only
  rw [if_neg (by decide), if_neg (by decide), if_neg (by decide), if_neg (by decide), if_neg (by decide), if_pos rfl, if_pos ⟨rfl, hd⟩, if_pos hm]

theorem st_4z {w v m d e : Nat} {x : Int32} {r : Nat → Int32} {bg rd : Nat → Nat} (hw : ¬ w = 2) : p_stp (some (4, x, e)) w v m r d bg rd = none := by
  unfold p_stp
  dsimp only
  rw [if_neg hw, if_neg (by decide), if_neg (by decide), if_neg (by decide), if_neg (by decide), if_neg (by decide)]

theorem st_o {v m d e : Nat} {x : Int32} {r : Nat → Int32} {bg rd : Nat → Nat} (hd : d < 4) : p_stp (some (4, x, e)) 2 v m r d bg rd = some (.inr (e, 0, 0, m, r, d + 1, p_un bg d m, p_un rd d v)) := by
  unfold p_stp
  dsimp only
  rw [if_pos rfl, if_pos rfl, if_pos hd]

theorem st_oz {v m d e : Nat} {x : Int32} {r : Nat → Int32} {bg rd : Nat → Nat} (hd : ¬ d < 4) : p_stp (some (4, x, e)) 2 v m r d bg rd = none := by
  unfold p_stp
  dsimp only
  rw [if_pos rfl, if_pos rfl, if_neg hd]

theorem st_ox {v m d e t : Nat} {x : Int32} {r : Nat → Int32} {bg rd : Nat → Nat} (ht : ¬ t = 4) : p_stp (some (t, x, e)) 2 v m r d bg rd = none := by
  unfold p_stp
  dsimp only
  rw [if_pos rfl, if_neg ht]

def MR (m : Nat) (r : Nat → Int32) (d : Nat) (bg rd : Nat → Nat) (z : Hp) : Prop := z 63 31 = nI d ∧ (∀ i, i < d → z 77 i = nI (rd i)) ∧ ∃ q : Nat, z 63 27 = nI q ∧ q ≤ 60 ∧ (∀ i, i < d → ∃ a : Nat, z 76 i = nI a ∧ a ≤ q ∧ (m ≤ 24 → a = bg i)) ∧ (m ≤ 24 → q = m ∧ z 63 28 = 0 ∧ ∀ i, i < m → z 75 i = r i) ∧ (24 < m → (¬ z 63 28 = 0 ∨ 24 < q))
theorem MR.call {W : List (Nat × Nat)} {m d : Nat} {r : Nat → Int32} {bg rd : Nat → Nat} {h h1 : Hp} (hR : MR m r d bg rd h) (hJ : JW W h h1) (w1 : wm W 63 31 = false) (w2 : wm W 63 27 = false) (w3 : wm W 63 28 = false) (w4 : ∀ j, wm W 75 j = false) (w5 : ∀ j, wm W 76 j = false) (w6 : ∀ j, wm W 77 j = false) : MR m r d bg rd h1 := by
  obtain ⟨a1, a2, q, a3, a4, a5, a6, a7⟩ := hR
  refine ⟨(hJ.2 63 31 w1).trans a1, fun i hi => (hJ.2 77 i (w6 i)).trans (a2 i hi), q, (hJ.2 63 27 w2).trans a3, a4, fun i hi => ?_, fun z => ?_, fun z => ?_⟩
  · obtain ⟨a, b1, b2⟩ := a5 i hi
    exact ⟨a, (hJ.2 76 i (w5 i)).trans b1, b2⟩
  · obtain ⟨b1, b2, b3⟩ := a6 z
    exact ⟨b1, (hJ.2 63 28 w3).trans b2, fun i hi => (hJ.2 75 i (w4 i)).trans (b3 i hi)⟩
  · rcases a7 z with b1 | b1
    · exact Or.inl (by rw [hJ.2 63 28 w3]; exact b1)
    · exact Or.inr b1
def k_br (h : Hp) (q : Nat) (c : Int32) : Hp := if q < 60 then ev_set (ev_set h 75 q c) 63 27 (nI (q + 1)) else ev_set h 63 28 1

set_option maxRecDepth 100000 in
set_option maxHeartbeats 4000000 in
theorem c_beatRead (L : Nat) (b : Bool) (h : Hp) (q : Nat) (hq : q ≤ 60) (eq : h 63 27 = nI q) (c : Int32) : EvU mi_X10_beatRead [.ref 63, .int c] (G0 L b) h (k_br h q c) := by
  refine EvU.of (lo := [some (.ref 63), some (.int c)]) pf_X10_beatRead ok_X10_beatRead rfl rfl ?_
  refine ev_aload_n rfl rfl rfl ?_
  refine ev_getI rfl rfl fl_X10_234 rfl rfl rfl ?_
  try simp (disch := decide) only [ev_rd2, eq]
  refine ev_bipush (v := 60) rfl rfl (by decide) ?_
  refine ev_icmp_lt rfl rfl (fun c_6 => ?_) (fun c_6 => ?_)
  · refine ev_aload_n rfl rfl rfl ?_
    refine ev_getR rfl rfl fl_X10_57 rfl rfl rfl rfl ?_
    refine ev_aload_n rfl rfl rfl ?_
    refine ev_getI rfl rfl fl_X10_234 rfl rfl rfl ?_
    try simp (disch := decide) only [ev_rd2, eq]
    refine ev_iload_n rfl rfl rfl ?_
    refine ev_iast rfl rfl rfl rfl (vp_in_nI (by have := (nI_lt2 (a := q) (b := 60) (by omega) (by decide)).mp c_6; omega) (by decide)) (nI_clamp (by omega)) ?_
    refine ev_aload_n rfl rfl rfl ?_
    refine ev_dup rfl rfl rfl ?_
    refine ev_getI rfl rfl fl_X10_234 rfl rfl rfl ?_
    try simp (disch := decide) only [ev_rd2, eq]
    refine ev_iconst (v := 1) rfl rfl (by decide) ?_
    refine ev_iadd rfl rfl ?_
    refine ev_putI rfl rfl fl_X10_234 rfl rfl rfl rfl rfl ?_
    rw [nI_1 q]
    exact ev_vret rfl rfl trivial (⟨rfl, rfl, by unfold k_br; rw [if_pos ((nI_lt2 (a := q) (b := 60) (by omega) (by decide)).mp c_6)]⟩)
  · refine ev_aload_n rfl rfl rfl ?_
    refine ev_iconst (v := 1) rfl rfl (by decide) ?_
    refine ev_putZ rfl rfl fl_X10_237 rfl rfl rfl rfl rfl (by decide) ?_
    refine ev_goto rfl rfl ?_
    exact ev_vret rfl rfl trivial (⟨rfl, rfl, by unfold k_br; rw [if_neg (fun z_ => c_6 ((nI_lt2 (a := q) (b := 60) (by omega) (by decide)).mpr z_))]⟩)

theorem jw_br {h0 h : Hp} (hJ : JW [(63, 17), (63, 18), (63, 19), (63, 20), (63, 21), (63, 22), (63, 27), (63, 28), (63, 31), (75, 999), (76, 999), (77, 999)] h0 h) {q : Nat} {c : Int32} (hc : B c 0 4095) : JW [(63, 17), (63, 18), (63, 19), (63, 20), (63, 21), (63, 22), (63, 27), (63, 28), (63, 31), (75, 999), (76, 999), (77, 999)] h0 (k_br h q c) := by
  unfold k_br
  split
  · exact (hJ.set rfl hc).set rfl (nI_60 (by omega))
  · exact hJ.set rfl (B.any _)
theorem k_br_ne {h : Hp} {q i j : Nat} {c : Int32} (h1 : i ≠ 75) (h2 : ¬ (i = 63 ∧ (j = 27 ∨ j = 28))) : k_br h q c i j = h i j := by
  unfold k_br
  split
  · unfold ev_set
    rw [if_neg (fun z => h2 ⟨z.1, Or.inl z.2⟩), if_neg (fun z => h1 z.1)]
  · unfold ev_set
    rw [if_neg (fun z => h2 ⟨z.1, Or.inr z.2⟩)]
theorem mr_beat {m d : Nat} {r : Nat → Int32} {bg rd : Nat → Nat} {h : Hp} (c : Int32) (hm : m ≤ 25) (hR : MR m r d bg rd h) {q : Nat} (eq : h 63 27 = nI q) (hq : q ≤ 60) (hb : ∀ i, i < d → bg i ≤ m) : MR (p_mn m) (p_ad r m c) d bg rd (k_br h q c) := by
  obtain ⟨a1, a2, q', a3, a4, a5, a6, a7⟩ := hR
  have e : q' = q := (nI_eq (by omega) (by omega)).mp (a3.symm.trans eq)
  subst e
  refine ⟨by rw [k_br_ne (by decide) (by decide)]; exact a1, fun i hi => by rw [k_br_ne (by decide) (fun z => absurd z.1 (by decide))]; exact a2 i hi, ?_⟩
  by_cases q6 : q' < 60
  · have e27 : k_br h q' c 63 27 = nI (q' + 1) := by unfold k_br; rw [if_pos q6]; exact ev_rd1 _ _ _ _
    have e28 : k_br h q' c 63 28 = h 63 28 := by unfold k_br; rw [if_pos q6, ev_rd3 (by decide), ev_rd2 (by decide)]
    have e75 : ∀ j, k_br h q' c 75 j = if j = q' then c else h 75 j := fun j => by unfold k_br; rw [if_pos q6, ev_rd2 (by decide), ev_sj]
    refine ⟨q' + 1, e27, by omega, fun i hi => ?_, fun z => ?_, fun z => ?_⟩
    · obtain ⟨a, b1, b2, b3⟩ := a5 i hi
      refine ⟨a, by rw [k_br_ne (by decide) (fun z => absurd z.1 (by decide))]; exact b1, by omega, fun z => b3 ?_⟩
      unfold p_mn at z
      split at z <;> omega
    · unfold p_mn at z ⊢
      split at z
      · rename_i m25
        obtain ⟨b1, b2, b3⟩ := a6 (by omega)
        rw [if_pos m25]
        refine ⟨by omega, by rw [e28]; exact b2, fun i hi => ?_⟩
        rw [e75]
        unfold p_ad
        rw [if_pos (show m < 24 by omega)]
        unfold p_up
        by_cases w : i = m
        · rw [if_pos (by omega), if_pos w]
        · rw [if_neg (by omega), if_neg w]
          exact b3 i (by omega)
      · omega
    · rw [e28]
      by_cases m24 : m ≤ 24
      · have := (a6 m24).1
        unfold p_mn at z
        split at z
        · exact Or.inr (by omega)
        · omega
      · rcases a7 (by omega) with b1 | b1
        · exact Or.inl b1
        · exact Or.inr (by omega)
  · have e27 : k_br h q' c 63 27 = nI q' := by unfold k_br; rw [if_neg q6, ev_rd3 (by decide)]; exact a3
    have e28 : k_br h q' c 63 28 = 1 := by unfold k_br; rw [if_neg q6]; exact ev_rd1 _ _ _ _
    have m25 : ¬ m ≤ 24 := fun z => by have := (a6 z).1; omega
    refine ⟨q', e27, a4, fun i hi => ?_, fun z => ?_, fun _ => Or.inl (by rw [e28]; decide)⟩
    · obtain ⟨a, b1, b2, b3⟩ := a5 i hi
      refine ⟨a, by rw [k_br_ne (by decide) (fun z => absurd z.1 (by decide))]; exact b1, b2, fun z => b3 ?_⟩
      unfold p_mn at z
      split at z <;> omega
    · unfold p_mn at z
      split at z <;> omega

def h_rdr (h : Hp) (r : Nat → Int32) : Hp := fun i j => if i = 75 then r j else h i j
theorem h_rdr_ne {h : Hp} {r : Nat → Int32} {i j : Nat} (hi : i ≠ 75) : h_rdr h r i j = h i j := if_neg hi
theorem h_rdr_75 (h : Hp) (r : Nat → Int32) (j : Nat) : h_rdr h r 75 j = r j := if_pos rfl
theorem h_rdr_id (h : Hp) : h_rdr h (h 75) = h := by
  funext i j
  unfold h_rdr
  by_cases e : i = 75
  · rw [if_pos e, e]
  · rw [if_neg e]
theorem h_rdr_set (h : Hp) (r : Nat → Int32) (i : Nat) (x : Int32) : ev_set (h_rdr h r) 75 i x = h_rdr h (p_up r i x) := by
  funext a j
  unfold ev_set h_rdr p_up
  by_cases e : a = 75
  · subst e
    by_cases e2 : j = i
    · rw [if_pos ⟨rfl, e2⟩, if_pos rfl, if_pos e2]
    · rw [if_neg (fun z => e2 z.2), if_pos rfl, if_pos rfl, if_neg e2]
  · rw [if_neg (fun z => e z.1), if_neg e, if_neg e]
theorem JW.rdr {W : List (Nat × Nat)} {h0 h : Hp} {r : Nat → Int32} (hJ : JW W h0 h) (hb : ∀ j, B (r j) 0 4095) (hw : ∀ j, wm W 75 j = true) : JW W h0 (h_rdr h r) := by
  refine ⟨fun i j => ?_, fun i j q => ?_⟩
  · unfold h_rdr
    split
    · rename_i e; rw [e]; exact hb j
    · exact hJ.1 i j
  · unfold h_rdr
    rw [if_neg (fun e => by rw [e, hw j] at q; cases q)]
    exact hJ.2 i j q

set_option maxRecDepth 100000 in
set_option maxHeartbeats 4000000 in
theorem l_clo (L : Nat) (b : Bool) (h : Hp) (a o x d : Nat) (hd : d < 4) (ed : h 63 31 = nI d) (ex : h 77 d = nI x) (hx : x ≤ 20) (ho : a + o * x ≤ 24) (ho2 : o * x < 2 ^ 31) : ∀ (t k : Nat) (r : Nat → Int32), k + t = o * x → o ≤ k → EvQ mi_X10_closes 55 [some (.ref 63), some (.int (nI a)), some (.int (nI o)), some (.int (nI k))] [] (G0 L b) (h_rdr h r) 0 0 (fun v G' h' => v = none ∧ G' = G0 L b ∧ h' = ev_set (h_rdr h (p_cp o t (a + k) r)) 63 27 (nI (a + o * x))) := by
  intro t
  induction t with
  | zero =>
    intro k r hk hok
    have hk2 : k = o * x := by omega
    subst hk2
    refine ev_iload_n rfl rfl rfl ?_
    refine ev_iload_n rfl rfl rfl ?_
    refine ev_aload_n rfl rfl rfl ?_
    refine ev_getR rfl rfl fl_X10_63 rfl rfl rfl rfl ?_
    refine ev_aload_n rfl rfl rfl ?_
    refine ev_getI rfl rfl fl_X10_241 rfl rfl rfl ?_
    try simp (disch := decide) only [h_rdr_ne, h_rdr_75, ed, ex]
    refine ev_iald rfl rfl rfl (vp_in_nI (by omega) (by decide)) (nI_clamp (by omega)) ?_
    try simp (disch := decide) only [h_rdr_ne, h_rdr_75, ed, ex]
    refine ev_imul rfl rfl ?_
    rw [nI_mul]
    refine ev_icmp_ge rfl rfl (fun c_67 => ?_) (fun z_ => absurd (Int32.le_refl _) z_)
    refine ev_aload_n rfl rfl rfl ?_
    refine ev_iload_n rfl rfl rfl ?_
    refine ev_iload_n rfl rfl rfl ?_
    refine ev_aload_n rfl rfl rfl ?_
    refine ev_getR rfl rfl fl_X10_63 rfl rfl rfl rfl ?_
    refine ev_aload_n rfl rfl rfl ?_
    refine ev_getI rfl rfl fl_X10_241 rfl rfl rfl ?_
    try simp (disch := decide) only [h_rdr_ne, h_rdr_75, ed, ex]
    refine ev_iald rfl rfl rfl (vp_in_nI (by omega) (by decide)) (nI_clamp (by omega)) ?_
    try simp (disch := decide) only [h_rdr_ne, h_rdr_75, ed, ex]
    refine ev_imul rfl rfl ?_
    rw [nI_mul]
    refine ev_iadd rfl rfl ?_
    rw [nI_add]
    refine ev_putI rfl rfl fl_X10_234 rfl rfl rfl rfl rfl ?_
    exact ev_vret rfl rfl trivial (⟨rfl, rfl, rfl⟩)
  | succ t ih =>
    intro k r hk hok
    refine ev_iload_n rfl rfl rfl ?_
    refine ev_iload_n rfl rfl rfl ?_
    refine ev_aload_n rfl rfl rfl ?_
    refine ev_getR rfl rfl fl_X10_63 rfl rfl rfl rfl ?_
    refine ev_aload_n rfl rfl rfl ?_
    refine ev_getI rfl rfl fl_X10_241 rfl rfl rfl ?_
    try simp (disch := decide) only [h_rdr_ne, h_rdr_75, ed, ex]
    refine ev_iald rfl rfl rfl (vp_in_nI (by omega) (by decide)) (nI_clamp (by omega)) ?_
    try simp (disch := decide) only [h_rdr_ne, h_rdr_75, ed, ex]
    refine ev_imul rfl rfl ?_
    rw [nI_mul]
    refine ev_icmp_ge rfl rfl (fun z_ => absurd z_ (fun z_ => absurd ((nI_le2 (by omega) (by omega)).mp z_) (by omega))) (fun c_67 => ?_)
    refine ev_aload_n rfl rfl rfl ?_
    refine ev_getR rfl rfl fl_X10_57 rfl rfl rfl rfl ?_
    refine ev_iload_n rfl rfl rfl ?_
    refine ev_iload_n rfl rfl rfl ?_
    refine ev_iadd rfl rfl ?_
    rw [nI_add]
    refine ev_aload_n rfl rfl rfl ?_
    refine ev_getR rfl rfl fl_X10_57 rfl rfl rfl rfl ?_
    refine ev_iload_n rfl rfl rfl ?_
    refine ev_iload_n rfl rfl rfl ?_
    refine ev_iadd rfl rfl ?_
    rw [nI_add]
    refine ev_iload_n rfl rfl rfl ?_
    refine ev_isub rfl rfl ?_
    rw [nI_sub2 (show o ≤ a + k by omega) (show a + k < 2 ^ 31 by omega)]
    refine ev_iald rfl rfl rfl (vp_in_nI (by omega) (by decide)) (nI_clamp (by omega)) ?_
    try simp (disch := decide) only [h_rdr_ne, h_rdr_75, ed, ex]
    refine ev_iast rfl rfl rfl rfl (vp_in_nI (by omega) (by decide)) (nI_clamp (by omega)) ?_
    refine ev_iinc (y := 1) rfl rfl rfl (by decide) rfl rfl ?_
    dsimp only [List.set]
    refine ev_goto rfl rfl ?_
    rw [nI_1 k, h_rdr_set]
    have z_ := ih (k + 1) (p_up r (a + k) (r (a + k - o))) (by omega) (by omega)
    exact z_

def k_clo (h : Hp) (q d a x : Nat) : Hp := if 24 < p_all q a x then ev_set (ev_set h 63 31 (nI (d - 1))) 63 28 1 else ev_set (h_rdr (ev_set h 63 31 (nI (d - 1))) (p_cp (q - a) (p_all q a x - q) q (h 75))) 63 27 (nI (p_all q a x))
theorem p_all_le2 {q a x : Nat} (ha : a ≤ q) (hq : q ≤ 60) (hx : x ≤ 20) : p_all q a x ≤ 1300 ∧ (q - a) * x ≤ 1300 := by
  unfold p_all
  have h1 : (q - a) * x ≤ (q - a) * 20 := Nat.mul_le_mul_left _ hx
  omega

set_option maxRecDepth 100000 in
set_option maxHeartbeats 4000000 in
theorem c_closes (L : Nat) (b : Bool) (h : Hp) (q : Nat) (hq : q ≤ 60) (eq : h 63 27 = nI q) (d : Nat) (hd : 0 < d) (hd4 : d ≤ 4) (ed : h 63 31 = nI d) (a x : Nat) (ha : a ≤ q) (hx1 : 1 ≤ x) (hx : x ≤ 20) (ea : h 76 (d - 1) = nI a) (ex : h 77 (d - 1) = nI x)  : EvU mi_X10_closes [.ref 63] (G0 L b) h (k_clo h q d a x) := by
  have hal := p_all_le2 ha hq hx
  have hag := p_all_ge ha hx1
  refine EvU.of (lo := [some (.ref 63), none, none, none]) pf_X10_closes ok_X10_closes rfl rfl ?_
  refine ev_aload_n rfl rfl rfl ?_
  refine ev_dup rfl rfl rfl ?_
  refine ev_getI rfl rfl fl_X10_241 rfl rfl rfl ?_
  try simp (disch := decide) only [ev_rd1, ev_rd2, ev_rd3, eq, ed, ea, ex]
  refine ev_iconst (v := 1) rfl rfl (by decide) ?_
  refine ev_isub rfl rfl ?_
  rw [show nI d - 1 = nI (d - 1) from nI_sub2 (b := 1) (by omega) (by omega)]
  refine ev_putI rfl rfl fl_X10_241 rfl rfl rfl rfl rfl ?_
  refine ev_aload_n rfl rfl rfl ?_
  refine ev_getR rfl rfl fl_X10_60 rfl rfl rfl rfl ?_
  refine ev_aload_n rfl rfl rfl ?_
  refine ev_getI rfl rfl fl_X10_241 rfl rfl rfl ?_
  try simp (disch := decide) only [ev_rd1, ev_rd2, ev_rd3, eq, ed, ea, ex]
  refine ev_iald rfl rfl rfl (vp_in_nI (by omega) (by decide)) (nI_clamp (by omega)) ?_
  try simp (disch := decide) only [ev_rd1, ev_rd2, ev_rd3, eq, ed, ea, ex]
  refine ev_istore_n rfl rfl rfl rfl ?_
  dsimp only [List.set]
  refine ev_aload_n rfl rfl rfl ?_
  refine ev_getI rfl rfl fl_X10_234 rfl rfl rfl ?_
  try simp (disch := decide) only [ev_rd1, ev_rd2, ev_rd3, eq, ed, ea, ex]
  refine ev_iload_n rfl rfl rfl ?_
  refine ev_isub rfl rfl ?_
  rw [nI_sub2 ha (by omega)]
  refine ev_istore_n rfl rfl rfl rfl ?_
  dsimp only [List.set]
  refine ev_iload_n rfl rfl rfl ?_
  refine ev_aload_n rfl rfl rfl ?_
  refine ev_getR rfl rfl fl_X10_63 rfl rfl rfl rfl ?_
  refine ev_aload_n rfl rfl rfl ?_
  refine ev_getI rfl rfl fl_X10_241 rfl rfl rfl ?_
  try simp (disch := decide) only [ev_rd1, ev_rd2, ev_rd3, eq, ed, ea, ex]
  refine ev_iald rfl rfl rfl (vp_in_nI (by omega) (by decide)) (nI_clamp (by omega)) ?_
  try simp (disch := decide) only [ev_rd1, ev_rd2, ev_rd3, eq, ed, ea, ex]
  refine ev_imul rfl rfl ?_
  refine ev_iload_n rfl rfl rfl ?_
  refine ev_iadd rfl rfl ?_
  rw [nI_mul, nI_add, show (q - a) * x + a = p_all q a x from Nat.add_comm _ _]
  refine ev_bipush (v := 24) rfl rfl (by decide) ?_
  refine ev_icmp_le rfl rfl (fun c_42 => ?_) (fun c_42 => ?_)
  · refine ev_iload_n rfl rfl rfl ?_
    refine ev_istore_n rfl rfl rfl rfl ?_
    dsimp only [List.set]
    have h24 : p_all q a x ≤ 24 := (nI_le2 (a := p_all q a x) (b := 24) (by omega) (by decide)).mp c_42
    have ep : a + (q - a) * x = p_all q a x := rfl
    have ge : q - a ≤ (q - a) * x := Nat.le_mul_of_pos_right _ (by omega)
    have z_ := l_clo L b (ev_set h 63 31 (nI (d - 1))) a (q - a) x (d - 1) (by omega) (by simp (disch := decide) only [ev_rd1, ev_rd2, ev_rd3]) (by simp (disch := decide) only [ev_rd1, ev_rd2, ev_rd3]; exact ex) hx (by omega) (by omega) ((q - a) * x - (q - a)) (q - a) (ev_set h 63 31 (nI (d - 1)) 75) (by omega) (Nat.le_refl _)
    rw [h_rdr_id, show a + (q - a) = q by omega, show (q - a) * x - (q - a) = p_all q a x - q by omega] at z_
    unfold k_clo
    rw [if_neg (by omega)]
    exact z_
  · refine ev_aload_n rfl rfl rfl ?_
    refine ev_iconst (v := 1) rfl rfl (by decide) ?_
    refine ev_putZ rfl rfl fl_X10_237 rfl rfl rfl rfl rfl (by decide) ?_
    refine ev_goto rfl rfl ?_
    exact ev_vret rfl rfl trivial (⟨rfl, rfl, by unfold k_clo; rw [if_pos (nI_xle (b := 24) c_42 (by omega) (by decide))]⟩)

theorem p_cp_cg (o : Nat) (ho : 1 ≤ o) : ∀ t i (r s : Nat → Int32), o ≤ i → (∀ j, j < i → r j = s j) → ∀ j, j < i + t → p_cp o t i r j = p_cp o t i s j
  | 0, i, r, s, _, h, j, hj => h j (by omega)
  | t + 1, i, r, s, hi, h, j, hj => by
    unfold p_cp
    refine p_cp_cg o ho t (i + 1) _ _ (by omega) (fun j hj => ?_) j (by omega)
    unfold p_up
    by_cases q : j = i
    · rw [if_pos q, if_pos q]; exact h _ (by omega)
    · rw [if_neg q, if_neg q]; exact h j (by omega)
theorem mr_clo {m d : Nat} {r : Nat → Int32} {bg rd : Nat → Nat} {h : Hp} (hR : MR m r d bg rd h) {q a x : Nat} (hd : 0 < d) (hd4 : d ≤ 4) (eq : h 63 27 = nI q) (hq : q ≤ 60) (ea : h 76 (d - 1) = nI a) (hx : x = rd (d - 1)) (hx1 : 1 ≤ x) (hx2 : x ≤ 20) (ha : a ≤ q) (hm : m ≤ 25) (hb : ∀ i, i < d → bg i ≤ m) {m' : Nat} {r' : Nat → Int32} (hs : (24 < m ∨ 24 < p_all m (bg (d - 1)) x) ∧ m' = 25 ∨ ¬ (24 < m ∨ 24 < p_all m (bg (d - 1)) x) ∧ m' = p_all m (bg (d - 1)) x ∧ r' = p_cp (m - bg (d - 1)) (p_all m (bg (d - 1)) x - m) m r) : MR m' r' (d - 1) bg rd (k_clo h q d a x) := by
  obtain ⟨a1, a2, q', a3, a4, a5, a6, a7⟩ := hR
  have e : q' = q := (nI_eq (by omega) (by omega)).mp (a3.symm.trans eq)
  subst e
  have hag := p_all_ge ha hx1
  have hal := p_all_le2 ha hq hx2
  have aeq : m ≤ 24 → a = bg (d - 1) := fun z => by
    obtain ⟨a', b1, b2, b3⟩ := a5 (d - 1) (by omega)
    have : a' = a := (nI_eq (by omega) (by omega)).mp (b1.symm.trans ea)
    rw [← this]; exact b3 z
  by_cases big : 24 < p_all q' a x
  · have m25 : m' = 25 := by
      rcases hs with z | z
      · exact z.2
      · exfalso
        obtain ⟨z1, -, -⟩ := z
        have m24 : m ≤ 24 := by omega
        have b1 := (a6 m24).1
        rw [← aeq m24, ← b1] at z1
        exact z1 (Or.inr big)
    have ek : k_clo h q' d a x = ev_set (ev_set h 63 31 (nI (d - 1))) 63 28 1 := if_pos big
    rw [ek]
    refine ⟨by rw [ev_rd3 (by decide)]; exact ev_rd1 _ _ _ _, fun i hi => by rw [ev_rd2 (by decide), ev_rd2 (by decide)]; exact a2 i (by omega), q', by rw [ev_rd3 (by decide), ev_rd3 (by decide)]; exact a3, a4, fun i hi => ?_, fun z => by omega, fun _ => Or.inl (by rw [ev_rd1]; decide)⟩
    obtain ⟨a', b1, b2, b3⟩ := a5 i (by omega)
    exact ⟨a', by rw [ev_rd2 (by decide), ev_rd2 (by decide)]; exact b1, b2, fun z => by omega⟩
  · have ek : k_clo h q' d a x = ev_set (h_rdr (ev_set h 63 31 (nI (d - 1))) (p_cp (q' - a) (p_all q' a x - q') q' (h 75))) 63 27 (nI (p_all q' a x)) := if_neg big
    rw [ek]
    have e28 : ev_set (h_rdr (ev_set h 63 31 (nI (d - 1))) (p_cp (q' - a) (p_all q' a x - q') q' (h 75))) 63 27 (nI (p_all q' a x)) 63 28 = h 63 28 := by rw [ev_rd3 (by decide), h_rdr_ne (by decide), ev_rd3 (by decide)]
    refine ⟨by rw [ev_rd3 (by decide), h_rdr_ne (by decide)]; exact ev_rd1 _ _ _ _, fun i hi => by rw [ev_rd2 (by decide), h_rdr_ne (by decide), ev_rd2 (by decide)]; exact a2 i (by omega), p_all q' a x, ev_rd1 _ _ _ _, by omega, fun i hi => ?_, fun z => ?_, fun z => ?_⟩
    · obtain ⟨a', b1, b2, b3⟩ := a5 i (by omega)
      refine ⟨a', by rw [ev_rd2 (by decide), h_rdr_ne (by decide), ev_rd2 (by decide)]; exact b1, by omega, fun z => b3 ?_⟩
      rcases hs with y | y
      · omega
      · have := y.1; omega
    · rcases hs with y | y
      · omega
      · obtain ⟨y1, y2, y3⟩ := y
        have m24 : m ≤ 24 := by omega
        obtain ⟨b1, b2, b3⟩ := a6 m24
        have ae := aeq m24
        subst b1
        rw [← ae] at y2 y3
        refine ⟨y2.symm, by rw [e28]; exact b2, fun i hi => ?_⟩
        rw [ev_rd2 (by decide), h_rdr_75, y3]
        by_cases o0 : q' - a = 0
        · have e0 : p_all q' a x = q' := by unfold p_all; rw [o0, Nat.zero_mul]; omega
          rw [e0, Nat.sub_self]
          exact b3 i (by omega)
        · exact p_cp_cg (q' - a) (by omega) _ q' (h 75) r (by omega) b3 i (by omega)
    · rw [e28]
      have m25 : 24 < m := by
        rcases Nat.lt_or_ge 24 m with y | y
        · exact y
        · exfalso
          have b1 := (a6 y).1
          rcases hs with z1 | z1
          · have ae := aeq y
            rw [← ae, ← b1] at z1
            omega
          · have z2 := z1.2.1
            have ae := aeq y
            rw [← ae, ← b1] at z2
            omega
      rcases a7 m25 with b1 | b1
      · exact Or.inl b1
      · omega

theorem jw_clo {h0 h : Hp} (hJ : JW [(63, 17), (63, 18), (63, 19), (63, 20), (63, 21), (63, 22), (63, 27), (63, 28), (63, 31), (75, 999), (76, 999), (77, 999)] h0 h) {q d a x : Nat} (hd4 : d ≤ 4) : JW [(63, 17), (63, 18), (63, 19), (63, 20), (63, 21), (63, 22), (63, 27), (63, 28), (63, 31), (75, 999), (76, 999), (77, 999)] h0 (k_clo h q d a x) := by
  unfold k_clo
  split
  · exact (hJ.set rfl (nI_4 (by omega))).set rfl (B.any _)
  · exact (JW.rdr (hJ.set rfl (nI_4 (by omega))) (p_cp_B _ _ _ _ (fun j => hJ.1 75 j)) (fun _ => rfl)).set rfl (nI_60 (by omega))
theorem k_clo_ne {h : Hp} {q d a x i j : Nat} (h1 : i ≠ 75) (h2 : ¬ (i = 63 ∧ (j = 27 ∨ j = 28 ∨ j = 31))) : k_clo h q d a x i j = h i j := by
  unfold k_clo
  split
  · unfold ev_set
    rw [if_neg (fun z => h2 ⟨z.1, Or.inr (Or.inl z.2)⟩), if_neg (fun z => h2 ⟨z.1, Or.inr (Or.inr z.2)⟩)]
  · unfold ev_set
    rw [if_neg (fun z => h2 ⟨z.1, Or.inl z.2⟩), h_rdr_ne h1, if_neg (fun z => h2 ⟨z.1, Or.inr (Or.inr z.2)⟩)]
def z_is (s v c : Int32) : Int32 := if s = 3 then (if v = c then 1 else 0) else 0

set_option maxRecDepth 100000 in
set_option maxHeartbeats 4000000 in
theorem c_isSign (L : Nat) (b : Bool) (h : Hp) (c : Int32) : EvD mi_X10_isSign [.ref 63, .int c] (G0 L b) h (z_is (h 63 19) (h 63 20) c) (h) := by
  refine EvD.of (lo := [some (.ref 63), some (.int c)]) pf_X10_isSign ok_X10_isSign rfl rfl ?_
  refine ev_aload_n rfl rfl rfl ?_
  refine ev_getI rfl rfl fl_X10_204 rfl rfl rfl ?_
  refine ev_iconst (v := 3) rfl rfl (by decide) ?_
  refine ev_icmp_ne rfl rfl (fun c_5 => ?_) (fun c_5 => ?_)
  · refine ev_iconst (v := 0) rfl rfl (by decide) ?_
    exact ev_iret rfl rfl rfl (⟨congrArg (fun z => some (Value.int z)) (by simp only [z_is, if_neg c_5]), rfl, rfl⟩)
  · refine ev_aload_n rfl rfl rfl ?_
    refine ev_getI rfl rfl fl_X10_207 rfl rfl rfl ?_
    refine ev_iload_n rfl rfl rfl ?_
    refine ev_icmp_ne rfl rfl (fun c_13 => ?_) (fun c_13 => ?_)
    · refine ev_iconst (v := 0) rfl rfl (by decide) ?_
      exact ev_iret rfl rfl rfl (⟨congrArg (fun z => some (Value.int z)) (by simp only [z_is, if_pos c_5, if_neg c_13]), rfl, rfl⟩)
    · refine ev_iconst (v := 1) rfl rfl (by decide) ?_
      refine ev_goto rfl rfl ?_
      exact ev_iret rfl rfl rfl (⟨congrArg (fun z => some (Value.int z)) (by simp only [z_is, if_pos c_5, if_pos c_13]), rfl, rfl⟩)

set_option maxRecDepth 100000 in
set_option maxHeartbeats 4000000 in
theorem c_wantsP (L : Nat) (b : Bool) (h : Hp) (g f : Int32) (hg : ¬ g = 0) : EvU mi_X10_wants [.ref 63, .int g, .int f] (G0 L b) h (h) := by
  refine EvU.of (lo := [some (.ref 63), some (.int g), some (.int f)]) pf_X10_wants ok_X10_wants rfl rfl ?_
  refine ev_iload_n rfl rfl rfl ?_
  refine ev_if_ne rfl rfl (fun c_1 => ?_) (fun z_ => absurd z_ hg)
  exact ev_vret rfl rfl trivial (⟨rfl, rfl, rfl⟩)

set_option maxRecDepth 100000 in
set_option maxHeartbeats 4000000 in
theorem c_wantsF (L : Nat) (b : Bool) (h : Hp) (g f : Int32) (hf : ¬ h 63 21 = 0) : EvU mi_X10_wants [.ref 63, .int g, .int f] (G0 L b) h (h) := by
  refine EvU.of (lo := [some (.ref 63), some (.int g), some (.int f)]) pf_X10_wants ok_X10_wants rfl rfl ?_
  refine ev_iload_n rfl rfl rfl ?_
  refine ev_if_ne rfl rfl (fun c_1 => ?_) (fun c_1 => ?_)
  · exact ev_vret rfl rfl trivial (⟨rfl, rfl, rfl⟩)
  · refine ev_aload_n rfl rfl rfl ?_
    refine ev_iload_n rfl rfl rfl ?_
    refine ev_aload_n rfl rfl rfl ?_
    refine ev_getI rfl rfl fl_X10_197 rfl rfl rfl ?_
    refine ev_V2U rfl rfl lk_X10_200 vt_X10_fails rfl rfl rfl rfl rfl (c_fails1 L b h hf _ _) ?_
    exact ev_vret rfl rfl trivial (⟨rfl, rfl, rfl⟩)

set_option maxRecDepth 100000 in
set_option maxHeartbeats 4000000 in
theorem l_rtX (L : Nat) (b : Bool) (h h1 : Hp) (R : Hp → Prop) (wI oI : Int32) (hJ : JW [(63, 17), (63, 18), (63, 19), (63, 20), (63, 21), (63, 22), (63, 27), (63, 28), (63, 31), (75, 999), (76, 999), (77, 999)] h h1) (hR : R h1) (hf : ¬ h1 63 21 = 0) : EvQ mi_X10_readTune 19 [some (.ref 63), some (.int wI), some (.int oI), none] [] (G0 L b) h1 0 0 (QK R [(63, 17), (63, 18), (63, 19), (63, 20), (63, 21), (63, 22), (63, 27), (63, 28), (63, 31), (75, 999), (76, 999), (77, 999)] (G0 L b) h) := by
  refine ev_iload_n rfl rfl rfl ?_
  refine ev_if_eq rfl rfl (fun c_20 => ?_) (fun c_20 => ?_)
  · refine ev_aload_n rfl rfl rfl ?_
    refine ev_getI rfl rfl fl_X10_191 rfl rfl rfl ?_
    refine ev_if_ne rfl rfl (fun c_256 => ?_) (fun z_ => absurd z_ hf)
    exact ev_vret rfl rfl trivial (⟨rfl, rfl, hJ, hR⟩)
  · refine ev_aload_n rfl rfl rfl ?_
    refine ev_getI rfl rfl fl_X10_191 rfl rfl rfl ?_
    refine ev_if_ne rfl rfl (fun c_27 => ?_) (fun z_ => absurd z_ hf)
    refine ev_aload_n rfl rfl rfl ?_
    refine ev_getI rfl rfl fl_X10_191 rfl rfl rfl ?_
    refine ev_if_ne rfl rfl (fun c_256 => ?_) (fun z_ => absurd z_ hf)
    exact ev_vret rfl rfl trivial (⟨rfl, rfl, hJ, hR⟩)

set_option maxRecDepth 100000 in
set_option maxHeartbeats 4000000 in
theorem l_rtE1 (L : Nat) (b : Bool) (h h1 : Hp) (R : Hp → Prop) (wI : Int32) (hJ : JW [(63, 17), (63, 18), (63, 19), (63, 20), (63, 21), (63, 22), (63, 27), (63, 28), (63, 31), (75, 999), (76, 999), (77, 999)] h h1) (q : Nat) (hq : q ≤ 60) (eq : h1 63 27 = nI q) (e21 : h1 63 21 = 0) (e28 : h1 63 28 = 0) (h24 : q ≤ 24) (hR : R h1) : EvQ mi_X10_readTune 19 [some (.ref 63), some (.int wI), some (.int 0), none] [] (G0 L b) h1 0 0 (QK R [(63, 17), (63, 18), (63, 19), (63, 20), (63, 21), (63, 22), (63, 27), (63, 28), (63, 31), (75, 999), (76, 999), (77, 999)] (G0 L b) h) := by
  refine ev_iload_n rfl rfl rfl ?_
  refine ev_if_eq rfl rfl (fun c_20 => ?_) (fun z_ => absurd (by decide) z_)
  refine ev_aload_n rfl rfl rfl ?_
  refine ev_getI rfl rfl fl_X10_191 rfl rfl rfl ?_
  try simp only [eq]
  refine ev_if_ne rfl rfl (fun z_ => absurd e21 z_) (fun c_256 => ?_)
  refine ev_aload_n rfl rfl rfl ?_
  refine ev_getI rfl rfl fl_X10_237 rfl rfl rfl ?_
  try simp only [eq]
  refine ev_if_ne rfl rfl (fun z_ => absurd e28 z_) (fun c_263 => ?_)
  refine ev_aload_n rfl rfl rfl ?_
  refine ev_getI rfl rfl fl_X10_234 rfl rfl rfl ?_
  try simp only [eq]
  refine ev_bipush (v := 24) rfl rfl (by decide) ?_
  refine ev_icmp_le rfl rfl (fun c_272 => ?_) (fun z_ => absurd ((nI_le2 (a := q) (b := 24) (by omega) (by decide)).mpr h24) z_)
  exact ev_vret rfl rfl trivial (⟨rfl, rfl, hJ, hR⟩)

set_option maxRecDepth 100000 in
set_option maxHeartbeats 4000000 in
theorem l_rtE2 (L : Nat) (b : Bool) (h h1 : Hp) (R : Hp → Prop) (wI : Int32) (hJ : JW [(63, 17), (63, 18), (63, 19), (63, 20), (63, 21), (63, 22), (63, 27), (63, 28), (63, 31), (75, 999), (76, 999), (77, 999)] h h1) (e21 : h1 63 21 = 0) (e28 : ¬ h1 63 28 = 0) (hR : ∀ z : Hp, ¬ z 63 21 = 0 → R z) : EvQ mi_X10_readTune 19 [some (.ref 63), some (.int wI), some (.int 0), none] [] (G0 L b) h1 0 0 (QK R [(63, 17), (63, 18), (63, 19), (63, 20), (63, 21), (63, 22), (63, 27), (63, 28), (63, 31), (75, 999), (76, 999), (77, 999)] (G0 L b) h) := by
  refine ev_iload_n rfl rfl rfl ?_
  refine ev_if_eq rfl rfl (fun c_20 => ?_) (fun z_ => absurd (by decide) z_)
  refine ev_aload_n rfl rfl rfl ?_
  refine ev_getI rfl rfl fl_X10_191 rfl rfl rfl ?_
  refine ev_if_ne rfl rfl (fun z_ => absurd e21 z_) (fun c_256 => ?_)
  refine ev_aload_n rfl rfl rfl ?_
  refine ev_getI rfl rfl fl_X10_237 rfl rfl rfl ?_
  refine ev_if_ne rfl rfl (fun c_263 => ?_) (fun z_ => absurd z_ e28)
  refine ev_aload_n rfl rfl rfl ?_
  refine ev_bipush (v := 6) rfl rfl (by decide) ?_
  refine ev_iconst (v := 0) rfl rfl (by decide) ?_
  refine ev_V2U rfl rfl lk_X10_200 vt_X10_fails rfl rfl rfl rfl rfl (m_fails L b h1 e21 _ _) ?_
  exact ev_vret rfl rfl trivial (⟨rfl, rfl, ((hJ.set rfl (by decide)).set rfl (B.any _)), hR _ (by simp (disch := decide) only [ev_rd1, ev_rd2, ev_rd3]; decide)⟩)

set_option maxRecDepth 100000 in
set_option maxHeartbeats 4000000 in
theorem l_rtE3 (L : Nat) (b : Bool) (h h1 : Hp) (R : Hp → Prop) (wI : Int32) (hJ : JW [(63, 17), (63, 18), (63, 19), (63, 20), (63, 21), (63, 22), (63, 27), (63, 28), (63, 31), (75, 999), (76, 999), (77, 999)] h h1) (e21 : h1 63 21 = 0) (q : Nat) (hq : q ≤ 60) (eq : h1 63 27 = nI q) (e28 : h1 63 28 = 0) (h24 : 24 < q) (hR : ∀ z : Hp, ¬ z 63 21 = 0 → R z) : EvQ mi_X10_readTune 19 [some (.ref 63), some (.int wI), some (.int 0), none] [] (G0 L b) h1 0 0 (QK R [(63, 17), (63, 18), (63, 19), (63, 20), (63, 21), (63, 22), (63, 27), (63, 28), (63, 31), (75, 999), (76, 999), (77, 999)] (G0 L b) h) := by
  refine ev_iload_n rfl rfl rfl ?_
  refine ev_if_eq rfl rfl (fun c_20 => ?_) (fun z_ => absurd (by decide) z_)
  refine ev_aload_n rfl rfl rfl ?_
  refine ev_getI rfl rfl fl_X10_191 rfl rfl rfl ?_
  try simp only [eq]
  refine ev_if_ne rfl rfl (fun z_ => absurd e21 z_) (fun c_256 => ?_)
  refine ev_aload_n rfl rfl rfl ?_
  refine ev_getI rfl rfl fl_X10_237 rfl rfl rfl ?_
  try simp only [eq]
  refine ev_if_ne rfl rfl (fun z_ => absurd e28 z_) (fun c_263 => ?_)
  refine ev_aload_n rfl rfl rfl ?_
  refine ev_getI rfl rfl fl_X10_234 rfl rfl rfl ?_
  try simp only [eq]
  refine ev_bipush (v := 24) rfl rfl (by decide) ?_
  refine ev_icmp_le rfl rfl (fun z_ => absurd z_ (fun z_ => absurd ((nI_le2 (a := q) (b := 24) (by omega) (by decide)).mp z_) (by omega))) (fun c_272 => ?_)
  refine ev_aload_n rfl rfl rfl ?_
  refine ev_bipush (v := 6) rfl rfl (by decide) ?_
  refine ev_iconst (v := 0) rfl rfl (by decide) ?_
  refine ev_V2U rfl rfl lk_X10_200 vt_X10_fails rfl rfl rfl rfl rfl (m_fails L b h1 e21 _ _) ?_
  exact ev_vret rfl rfl trivial (⟨rfl, rfl, ((hJ.set rfl (by decide)).set rfl (B.any _)), hR _ (by simp (disch := decide) only [ev_rd1, ev_rd2, ev_rd3]; decide)⟩)

set_option maxRecDepth 100000 in
set_option maxHeartbeats 4000000 in
theorem rt_1 (L : Nat) (b : Bool) (h h1 : Hp) (T : Nat → Int32) (n m : Nat) (r : Nat → Int32) (d : Nat) (bg rd : Nat → Nat) (hn : n ≤ 160) (hJ : JW [(63, 17), (63, 18), (63, 19), (63, 20), (63, 21), (63, 22), (63, 27), (63, 28), (63, 31), (75, 999), (76, 999), (77, 999)] h h1) (e1 : h1 63 16 = nI n) (eT : ∀ j, h1 72 j = T j) (hR : MR m r d bg rd h1) (hm : m ≤ 25) (hd4 : d ≤ 4) (hb : ∀ i, i < d → bg i ≤ m ∧ 1 ≤ rd i ∧ rd i ≤ 20) (e : Nat) (he : e ≤ n) (e17 : h1 63 17 = nI e) (e21 : h1 63 21 = 0) (Q : Pst) (wI : Int32) (x : Int32) (e19 : h1 63 19 = 1) (e20 : h1 63 20 = x) (hx : B x 0 4095) (kk : ∀ h2 : Hp, JW [(63, 17), (63, 18), (63, 19), (63, 20), (63, 21), (63, 22), (63, 27), (63, 28), (63, 31), (75, 999), (76, 999), (77, 999)] h h2 → h2 63 16 = nI n → (∀ j, h2 72 j = T j) → MTK (p_tok T n e) h2 → MR (p_mn m) (p_ad r m x) d bg rd h2 → EvQ mi_X10_readTune 19 [some (.ref 63), some (.int 0), some (.int 1), none] [] (G0 L b) h2 0 0 Q)  : EvQ mi_X10_readTune 19 [some (.ref 63), some (.int wI), some (.int 1), none] [] (G0 L b) h1 0 0 Q := by
  obtain ⟨a1, a2, q, eq, hq, a5, a6, a7⟩ := id hR
  refine ev_iload_n rfl rfl rfl ?_
  refine ev_if_eq rfl rfl (fun z_ => absurd z_ (by decide)) (fun c_20 => ?_)
  refine ev_aload_n rfl rfl rfl ?_
  refine ev_getI rfl rfl fl_X10_191 rfl rfl rfl ?_
  try simp only [e20]
  refine ev_if_ne rfl rfl (fun z_ => absurd e21 z_) (fun c_27 => ?_)
  refine ev_aload_n rfl rfl rfl ?_
  refine ev_getV (v := 1) rfl rfl fl_X10_204 rfl rfl rfl e19 ?_
  refine ev_iconst (v := 1) rfl rfl (by decide) ?_
  refine ev_icmp_eq rfl rfl (fun c_35 => ?_) (fun z_ => absurd (by decide) z_)
  refine ev_aload_n rfl rfl rfl ?_
  refine ev_aload_n rfl rfl rfl ?_
  refine ev_getV (v := 1) rfl rfl fl_X10_204 rfl rfl rfl e19 ?_
  refine ev_iconst (v := 1) rfl rfl (by decide) ?_
  refine ev_icmp_ne rfl rfl (fun z_ => absurd (by decide) z_) (fun c_53 => ?_)
  refine ev_aload_n rfl rfl rfl ?_
  refine ev_getI rfl rfl fl_X10_207 rfl rfl rfl ?_
  try simp only [e20]
  refine ev_goto rfl rfl ?_
  refine ev_V1U rfl rfl lk_X10_247 vt_X10_beatRead rfl rfl rfl rfl rfl (c_beatRead L b h1 q hq eq _) ?_
  refine ev_iconst (v := 0) rfl rfl (by decide) ?_
  refine ev_istore_n rfl rfl rfl rfl ?_
  dsimp only [List.set]
  refine ev_aload_n rfl rfl rfl ?_
  refine ev_V0K (jw_br (q := q) (c := x) hJ hx) rfl rfl rfl lk_X10_251 vt_X10_next rfl rfl rfl rfl rfl (w_nextM L b _ (jw_br (q := q) (c := x) hJ hx).1 T n e hn he (by rw [k_br_ne (by decide) (fun z => by first | exact absurd z.1 (by decide) | exact absurd z.2 (by decide))]; exact e1) (fun j => by rw [k_br_ne (by decide) (fun z => by first | exact absurd z.1 (by decide) | exact absurd z.2 (by decide))]; exact eT j) (by rw [k_br_ne (by decide) (fun z => by first | exact absurd z.1 (by decide) | exact absurd z.2 (by decide))]; exact e17) (by rw [k_br_ne (by decide) (fun z => by first | exact absurd z.1 (by decide) | exact absurd z.2 (by decide))]; exact e21)) (fun h2 j2 k2 m2 => ?_)
  refine ev_goto rfl rfl ?_
  exact kk h2 j2 ((k2.2 63 16 rfl).trans (by rw [k_br_ne (by decide) (fun z => by first | exact absurd z.1 (by decide) | exact absurd z.2 (by decide))]; exact e1)) (fun j => (k2.2 72 j rfl).trans (by rw [k_br_ne (by decide) (fun z => by first | exact absurd z.1 (by decide) | exact absurd z.2 (by decide))]; exact eT j)) m2 (MR.call (mr_beat x hm hR eq hq (fun i hi => (hb i hi).1)) k2 rfl rfl rfl (fun _ => rfl) (fun _ => rfl) (fun _ => rfl))

set_option maxRecDepth 100000 in
set_option maxHeartbeats 4000000 in
theorem rt_3 (L : Nat) (b : Bool) (h h1 : Hp) (T : Nat → Int32) (n m : Nat) (r : Nat → Int32) (d : Nat) (bg rd : Nat → Nat) (hn : n ≤ 160) (hJ : JW [(63, 17), (63, 18), (63, 19), (63, 20), (63, 21), (63, 22), (63, 27), (63, 28), (63, 31), (75, 999), (76, 999), (77, 999)] h h1) (e1 : h1 63 16 = nI n) (eT : ∀ j, h1 72 j = T j) (hR : MR m r d bg rd h1) (hm : m ≤ 25) (hd4 : d ≤ 4) (hb : ∀ i, i < d → bg i ≤ m ∧ 1 ≤ rd i ∧ rd i ≤ 20) (e : Nat) (he : e ≤ n) (e17 : h1 63 17 = nI e) (e21 : h1 63 21 = 0) (Q : Pst) (wI : Int32) (e19 : h1 63 19 = 3) (e20 : h1 63 20 = 46) (kk : ∀ h2 : Hp, JW [(63, 17), (63, 18), (63, 19), (63, 20), (63, 21), (63, 22), (63, 27), (63, 28), (63, 31), (75, 999), (76, 999), (77, 999)] h h2 → h2 63 16 = nI n → (∀ j, h2 72 j = T j) → MTK (p_tok T n e) h2 → MR (p_mn m) (p_ad r m 0) d bg rd h2 → EvQ mi_X10_readTune 19 [some (.ref 63), some (.int 0), some (.int 1), none] [] (G0 L b) h2 0 0 Q)  : EvQ mi_X10_readTune 19 [some (.ref 63), some (.int wI), some (.int 1), none] [] (G0 L b) h1 0 0 Q := by
  obtain ⟨a1, a2, q, eq, hq, a5, a6, a7⟩ := id hR
  refine ev_iload_n rfl rfl rfl ?_
  refine ev_if_eq rfl rfl (fun z_ => absurd z_ (by decide)) (fun c_20 => ?_)
  refine ev_aload_n rfl rfl rfl ?_
  refine ev_getI rfl rfl fl_X10_191 rfl rfl rfl ?_
  try simp only [e20]
  refine ev_if_ne rfl rfl (fun z_ => absurd e21 z_) (fun c_27 => ?_)
  refine ev_aload_n rfl rfl rfl ?_
  refine ev_getV (v := 3) rfl rfl fl_X10_204 rfl rfl rfl e19 ?_
  refine ev_iconst (v := 1) rfl rfl (by decide) ?_
  refine ev_icmp_eq rfl rfl (fun z_ => absurd z_ (by decide)) (fun c_35 => ?_)
  refine ev_aload_n rfl rfl rfl ?_
  refine ev_bipush (v := 46) rfl rfl (by decide) ?_
  refine ev_V1D rfl rfl lk_X10_244 vt_X10_isSign rfl rfl rfl rfl rfl (show EvD mi_X10_isSign _ _ _ 1 _ from EvD.to (c_isSign L b h1 46) (by rw [e19, e20]; rfl) rfl) ?_
  refine ev_if_eq rfl rfl (fun z_ => absurd z_ (by decide)) (fun c_44 => ?_)
  refine ev_aload_n rfl rfl rfl ?_
  refine ev_aload_n rfl rfl rfl ?_
  refine ev_getV (v := 3) rfl rfl fl_X10_204 rfl rfl rfl e19 ?_
  refine ev_iconst (v := 1) rfl rfl (by decide) ?_
  refine ev_icmp_ne rfl rfl (fun c_53 => ?_) (fun z_ => absurd z_ (by decide))
  refine ev_iconst (v := 0) rfl rfl (by decide) ?_
  refine ev_V1U rfl rfl lk_X10_247 vt_X10_beatRead rfl rfl rfl rfl rfl (c_beatRead L b h1 q hq eq _) ?_
  refine ev_iconst (v := 0) rfl rfl (by decide) ?_
  refine ev_istore_n rfl rfl rfl rfl ?_
  dsimp only [List.set]
  refine ev_aload_n rfl rfl rfl ?_
  refine ev_V0K (jw_br (q := q) (c := 0) hJ (by decide)) rfl rfl rfl lk_X10_251 vt_X10_next rfl rfl rfl rfl rfl (w_nextM L b _ (jw_br (q := q) (c := 0) hJ (by decide)).1 T n e hn he (by rw [k_br_ne (by decide) (fun z => by first | exact absurd z.1 (by decide) | exact absurd z.2 (by decide))]; exact e1) (fun j => by rw [k_br_ne (by decide) (fun z => by first | exact absurd z.1 (by decide) | exact absurd z.2 (by decide))]; exact eT j) (by rw [k_br_ne (by decide) (fun z => by first | exact absurd z.1 (by decide) | exact absurd z.2 (by decide))]; exact e17) (by rw [k_br_ne (by decide) (fun z => by first | exact absurd z.1 (by decide) | exact absurd z.2 (by decide))]; exact e21)) (fun h2 j2 k2 m2 => ?_)
  refine ev_goto rfl rfl ?_
  exact kk h2 j2 ((k2.2 63 16 rfl).trans (by rw [k_br_ne (by decide) (fun z => by first | exact absurd z.1 (by decide) | exact absurd z.2 (by decide))]; exact e1)) (fun j => (k2.2 72 j rfl).trans (by rw [k_br_ne (by decide) (fun z => by first | exact absurd z.1 (by decide) | exact absurd z.2 (by decide))]; exact eT j)) m2 (MR.call (mr_beat 0 hm hR eq hq (fun i hi => (hb i hi).1)) k2 rfl rfl rfl (fun _ => rfl) (fun _ => rfl) (fun _ => rfl))

set_option maxRecDepth 100000 in
set_option maxHeartbeats 4000000 in
theorem rt_2z (L : Nat) (b : Bool) (h h1 : Hp) (R : Hp → Prop) (hF : ∀ z : Hp, ¬ z 63 21 = 0 → R z) (hJ : JW [(63, 17), (63, 18), (63, 19), (63, 20), (63, 21), (63, 22), (63, 27), (63, 28), (63, 31), (75, 999), (76, 999), (77, 999)] h h1) (e21 : h1 63 21 = 0) (wI x : Int32) (e19 : h1 63 19 = 2) (e20 : h1 63 20 = x) (hz : z_wi x 1 20 = 0) : EvQ mi_X10_readTune 19 [some (.ref 63), some (.int wI), some (.int 1), none] [] (G0 L b) h1 0 0 (QK R [(63, 17), (63, 18), (63, 19), (63, 20), (63, 21), (63, 22), (63, 27), (63, 28), (63, 31), (75, 999), (76, 999), (77, 999)] (G0 L b) h) := by
  refine ev_iload_n rfl rfl rfl ?_
  refine ev_if_eq rfl rfl (fun z_ => absurd z_ (by decide)) (fun c_20 => ?_)
  refine ev_aload_n rfl rfl rfl ?_
  refine ev_getI rfl rfl fl_X10_191 rfl rfl rfl ?_
  try simp (disch := decide) only [ev_rd1, ev_rd2, ev_rd3, e20]
  refine ev_if_ne rfl rfl (fun z_ => absurd e21 z_) (fun c_27 => ?_)
  refine ev_aload_n rfl rfl rfl ?_
  refine ev_getV (v := 2) rfl rfl fl_X10_204 rfl rfl rfl e19 ?_
  refine ev_iconst (v := 1) rfl rfl (by decide) ?_
  refine ev_icmp_eq rfl rfl (fun z_ => absurd z_ (by decide)) (fun c_35 => ?_)
  refine ev_aload_n rfl rfl rfl ?_
  refine ev_bipush (v := 46) rfl rfl (by decide) ?_
  refine ev_V1D rfl rfl lk_X10_244 vt_X10_isSign rfl rfl rfl rfl rfl (show EvD mi_X10_isSign _ _ _ 0 _ from EvD.to (c_isSign L b h1 46) (by unfold z_is; rw [e19]; rfl) rfl) ?_
  refine ev_if_eq rfl rfl (fun c_44 => ?_) (fun z_ => absurd (by decide) z_)
  refine ev_aload_n rfl rfl rfl ?_
  refine ev_getV (v := 2) rfl rfl fl_X10_204 rfl rfl rfl e19 ?_
  refine ev_iconst (v := 2) rfl rfl (by decide) ?_
  refine ev_icmp_ne rfl rfl (fun z_ => absurd (by decide) z_) (fun c_81 => ?_)
  refine ev_aload_n rfl rfl rfl ?_
  refine ev_aload_n rfl rfl rfl ?_
  refine ev_getI rfl rfl fl_X10_207 rfl rfl rfl ?_
  try simp (disch := decide) only [ev_rd1, ev_rd2, ev_rd3, e20]
  refine ev_i2l rfl rfl ?_
  refine ev_lconst (v := 1) rfl rfl rfl ?_
  refine ev_ldc2 rfl rfl kc_X10_167 ?_
  refine ev_S3D rfl rfl lk_X10_124 st_X10_in rfl rfl (c_inw _ _ _ (1) (20) (by decide) (by decide)) ?_
  rw [hz]
  refine ev_iconst (v := 3) rfl rfl (by decide) ?_
  refine ev_V2U rfl rfl lk_X10_230 vt_X10_wants rfl rfl rfl rfl rfl (m_wants L b h1 e21 _) ?_
  refine ev_aload_n rfl rfl rfl ?_
  refine ev_getI rfl rfl fl_X10_207 rfl rfl rfl ?_
  try simp (disch := decide) only [ev_rd1, ev_rd2, ev_rd3, e20]
  refine ev_istore_n rfl rfl rfl rfl ?_
  dsimp only [List.set]
  refine ev_aload_n rfl rfl rfl ?_
  refine ev_V0U rfl rfl lk_X10_251 vt_X10_next rfl rfl rfl rfl rfl (c_nextF L b _ ((hJ.set rfl (by decide)).set rfl (B.any _)).1 (by simp (disch := decide) only [ev_rd1, ev_rd2, ev_rd3]; decide)) ?_
  refine ev_aload_n rfl rfl rfl ?_
  refine ev_aload_n rfl rfl rfl ?_
  refine ev_bipush (v := 40) rfl rfl (by decide) ?_
  refine ev_V1D rfl rfl lk_X10_244 vt_X10_isSign rfl rfl rfl rfl rfl (c_isSign L b _ _) ?_
  refine ev_iconst (v := 2) rfl rfl (by decide) ?_
  refine ev_V2U rfl rfl lk_X10_230 vt_X10_wants rfl rfl rfl rfl rfl (c_wantsF L b _ _ _ (by simp (disch := decide) only [ev_rd1, ev_rd2, ev_rd3]; decide)) ?_
  refine ev_aload_n rfl rfl rfl ?_
  refine ev_aload_n rfl rfl rfl ?_
  refine ev_getI rfl rfl fl_X10_241 rfl rfl rfl ?_
  try simp (disch := decide) only [ev_rd1, ev_rd2, ev_rd3, e20]
  refine ev_iconst (v := 4) rfl rfl (by decide) ?_
  refine ev_icmp_ge rfl rfl (fun c_127 => ?_) (fun c_127 => ?_)
  · refine ev_iconst (v := 0) rfl rfl (by decide) ?_
    refine ev_iconst (v := 5) rfl rfl (by decide) ?_
    refine ev_V2U rfl rfl lk_X10_230 vt_X10_wants rfl rfl rfl rfl rfl (c_wantsF L b _ _ _ (by simp (disch := decide) only [ev_rd1, ev_rd2, ev_rd3]; decide)) ?_
    refine ev_aload_n rfl rfl rfl ?_
    refine ev_getI rfl rfl fl_X10_191 rfl rfl rfl ?_
    try simp (disch := decide) only [ev_rd1, ev_rd2, ev_rd3, e20]
    refine ev_if_ne rfl rfl (fun c_143 => ?_) (fun z_ => absurd z_ (by decide))
    refine ev_aload_n rfl rfl rfl ?_
    refine ev_V0U rfl rfl lk_X10_251 vt_X10_next rfl rfl rfl rfl rfl (c_nextF L b _ ((hJ.set rfl (by decide)).set rfl (B.any _)).1 (by simp (disch := decide) only [ev_rd1, ev_rd2, ev_rd3]; decide)) ?_
    refine ev_goto rfl rfl ?_
    exact EvQ.drop 3 (l_rtX L b h _ R _ _ ((hJ.set rfl (by decide)).set rfl (B.any _)) (hF _ (by simp (disch := decide) only [ev_rd1, ev_rd2, ev_rd3]; decide)) (by simp (disch := decide) only [ev_rd1, ev_rd2, ev_rd3]; decide))
  · refine ev_iconst (v := 1) rfl rfl (by decide) ?_
    refine ev_goto rfl rfl ?_
    refine ev_iconst (v := 5) rfl rfl (by decide) ?_
    refine ev_V2U rfl rfl lk_X10_230 vt_X10_wants rfl rfl rfl rfl rfl (c_wantsF L b _ _ _ (by simp (disch := decide) only [ev_rd1, ev_rd2, ev_rd3]; decide)) ?_
    refine ev_aload_n rfl rfl rfl ?_
    refine ev_getI rfl rfl fl_X10_191 rfl rfl rfl ?_
    try simp (disch := decide) only [ev_rd1, ev_rd2, ev_rd3, e20]
    refine ev_if_ne rfl rfl (fun c_143 => ?_) (fun z_ => absurd z_ (by decide))
    refine ev_aload_n rfl rfl rfl ?_
    refine ev_V0U rfl rfl lk_X10_251 vt_X10_next rfl rfl rfl rfl rfl (c_nextF L b _ ((hJ.set rfl (by decide)).set rfl (B.any _)).1 (by simp (disch := decide) only [ev_rd1, ev_rd2, ev_rd3]; decide)) ?_
    refine ev_goto rfl rfl ?_
    exact EvQ.drop 3 (l_rtX L b h _ R _ _ ((hJ.set rfl (by decide)).set rfl (B.any _)) (hF _ (by simp (disch := decide) only [ev_rd1, ev_rd2, ev_rd3]; decide)) (by simp (disch := decide) only [ev_rd1, ev_rd2, ev_rd3]; decide))

set_option maxRecDepth 100000 in
set_option maxHeartbeats 4000000 in
theorem rt_2 (L : Nat) (b : Bool) (h h1 : Hp) (T : Nat → Int32) (n m : Nat) (r : Nat → Int32) (d : Nat) (bg rd : Nat → Nat) (hn : n ≤ 160) (hJ : JW [(63, 17), (63, 18), (63, 19), (63, 20), (63, 21), (63, 22), (63, 27), (63, 28), (63, 31), (75, 999), (76, 999), (77, 999)] h h1) (e1 : h1 63 16 = nI n) (eT : ∀ j, h1 72 j = T j) (hR : MR m r d bg rd h1) (hm : m ≤ 25) (hd4 : d ≤ 4) (hb : ∀ i, i < d → bg i ≤ m ∧ 1 ≤ rd i ∧ rd i ≤ 20) (e : Nat) (he : e ≤ n) (e17 : h1 63 17 = nI e) (e21 : h1 63 21 = 0) (Q : Pst) (wI x : Int32) (e19 : h1 63 19 = 2) (e20 : h1 63 20 = x) (hz : ¬ z_wi x 1 20 = 0) (k110 : ∀ h2 : Hp, JW [(63, 17), (63, 18), (63, 19), (63, 20), (63, 21), (63, 22), (63, 27), (63, 28), (63, 31), (75, 999), (76, 999), (77, 999)] h h2 → h2 63 16 = nI n → (∀ j, h2 72 j = T j) → MTK (p_tok T n e) h2 → MR m r d bg rd h2 → EvQ mi_X10_readTune 110 [some (.ref 63), some (.int wI), some (.int 1), some (.int x)] [] (G0 L b) h2 0 0 Q)  : EvQ mi_X10_readTune 19 [some (.ref 63), some (.int wI), some (.int 1), none] [] (G0 L b) h1 0 0 Q := by
  refine ev_iload_n rfl rfl rfl ?_
  refine ev_if_eq rfl rfl (fun z_ => absurd z_ (by decide)) (fun c_20 => ?_)
  refine ev_aload_n rfl rfl rfl ?_
  refine ev_getI rfl rfl fl_X10_191 rfl rfl rfl ?_
  try simp only [e20]
  refine ev_if_ne rfl rfl (fun z_ => absurd e21 z_) (fun c_27 => ?_)
  refine ev_aload_n rfl rfl rfl ?_
  refine ev_getV (v := 2) rfl rfl fl_X10_204 rfl rfl rfl e19 ?_
  refine ev_iconst (v := 1) rfl rfl (by decide) ?_
  refine ev_icmp_eq rfl rfl (fun z_ => absurd z_ (by decide)) (fun c_35 => ?_)
  refine ev_aload_n rfl rfl rfl ?_
  refine ev_bipush (v := 46) rfl rfl (by decide) ?_
  refine ev_V1D rfl rfl lk_X10_244 vt_X10_isSign rfl rfl rfl rfl rfl (show EvD mi_X10_isSign _ _ _ 0 _ from EvD.to (c_isSign L b h1 46) (by unfold z_is; rw [e19]; rfl) rfl) ?_
  refine ev_if_eq rfl rfl (fun c_44 => ?_) (fun z_ => absurd (by decide) z_)
  refine ev_aload_n rfl rfl rfl ?_
  refine ev_getV (v := 2) rfl rfl fl_X10_204 rfl rfl rfl e19 ?_
  refine ev_iconst (v := 2) rfl rfl (by decide) ?_
  refine ev_icmp_ne rfl rfl (fun z_ => absurd (by decide) z_) (fun c_81 => ?_)
  refine ev_aload_n rfl rfl rfl ?_
  refine ev_aload_n rfl rfl rfl ?_
  refine ev_getI rfl rfl fl_X10_207 rfl rfl rfl ?_
  try simp only [e20]
  refine ev_i2l rfl rfl ?_
  refine ev_lconst (v := 1) rfl rfl rfl ?_
  refine ev_ldc2 rfl rfl kc_X10_167 ?_
  refine ev_S3D rfl rfl lk_X10_124 st_X10_in rfl rfl (c_inw _ _ _ (1) (20) (by decide) (by decide)) ?_
  refine ev_iconst (v := 3) rfl rfl (by decide) ?_
  refine ev_V2U rfl rfl lk_X10_230 vt_X10_wants rfl rfl rfl rfl rfl (c_wantsP L b h1 _ _ hz) ?_
  refine ev_aload_n rfl rfl rfl ?_
  refine ev_getI rfl rfl fl_X10_207 rfl rfl rfl ?_
  try simp only [e20]
  refine ev_istore_n rfl rfl rfl rfl ?_
  dsimp only [List.set]
  refine ev_aload_n rfl rfl rfl ?_
  refine ev_V0K hJ rfl rfl rfl lk_X10_251 vt_X10_next rfl rfl rfl rfl rfl (w_nextM L b _ hJ.1 T n e hn he (by skip; exact e1) (fun j => by skip; exact eT j) (by skip; exact e17) (by skip; exact e21)) (fun h2 j2 k2 m2 => ?_)
  exact k110 h2 j2 ((k2.2 63 16 rfl).trans e1) (fun j => (k2.2 72 j rfl).trans (eT j)) m2 (MR.call hR k2 rfl rfl rfl (fun _ => rfl) (fun _ => rfl) (fun _ => rfl))

set_option maxRecDepth 100000 in
set_option maxHeartbeats 4000000 in
theorem rt_110a (L : Nat) (b : Bool) (h h1 : Hp) (R : Hp → Prop) (hF : ∀ z : Hp, ¬ z 63 21 = 0 → R z) (hJ : JW [(63, 17), (63, 18), (63, 19), (63, 20), (63, 21), (63, 22), (63, 27), (63, 28), (63, 31), (75, 999), (76, 999), (77, 999)] h h1) (wI x : Int32) (hf : ¬ h1 63 21 = 0) : EvQ mi_X10_readTune 110 [some (.ref 63), some (.int wI), some (.int 1), some (.int x)] [] (G0 L b) h1 0 0 (QK R [(63, 17), (63, 18), (63, 19), (63, 20), (63, 21), (63, 22), (63, 27), (63, 28), (63, 31), (75, 999), (76, 999), (77, 999)] (G0 L b) h) := by
  refine ev_aload_n rfl rfl rfl ?_
  refine ev_aload_n rfl rfl rfl ?_
  refine ev_bipush (v := 40) rfl rfl (by decide) ?_
  refine ev_V1D rfl rfl lk_X10_244 vt_X10_isSign rfl rfl rfl rfl rfl (c_isSign L b _ _) ?_
  refine ev_iconst (v := 2) rfl rfl (by decide) ?_
  refine ev_V2U rfl rfl lk_X10_230 vt_X10_wants rfl rfl rfl rfl rfl (c_wantsF L b _ _ _ hf) ?_
  refine ev_aload_n rfl rfl rfl ?_
  refine ev_aload_n rfl rfl rfl ?_
  refine ev_getI rfl rfl fl_X10_241 rfl rfl rfl ?_
  refine ev_iconst (v := 4) rfl rfl (by decide) ?_
  refine ev_icmp_ge rfl rfl (fun c_127 => ?_) (fun c_127 => ?_)
  · refine ev_iconst (v := 0) rfl rfl (by decide) ?_
    refine ev_iconst (v := 5) rfl rfl (by decide) ?_
    refine ev_V2U rfl rfl lk_X10_230 vt_X10_wants rfl rfl rfl rfl rfl (c_wantsF L b _ _ _ hf) ?_
    refine ev_aload_n rfl rfl rfl ?_
    refine ev_getI rfl rfl fl_X10_191 rfl rfl rfl ?_
    refine ev_if_ne rfl rfl (fun c_143 => ?_) (fun z_ => absurd z_ hf)
    refine ev_aload_n rfl rfl rfl ?_
    refine ev_V0U rfl rfl lk_X10_251 vt_X10_next rfl rfl rfl rfl rfl (c_nextF L b _ hJ.1 hf) ?_
    refine ev_goto rfl rfl ?_
    exact EvQ.drop 3 (l_rtX L b h _ R _ _ hJ (hF _ hf) hf)
  · refine ev_iconst (v := 1) rfl rfl (by decide) ?_
    refine ev_goto rfl rfl ?_
    refine ev_iconst (v := 5) rfl rfl (by decide) ?_
    refine ev_V2U rfl rfl lk_X10_230 vt_X10_wants rfl rfl rfl rfl rfl (c_wantsF L b _ _ _ hf) ?_
    refine ev_aload_n rfl rfl rfl ?_
    refine ev_getI rfl rfl fl_X10_191 rfl rfl rfl ?_
    refine ev_if_ne rfl rfl (fun c_143 => ?_) (fun z_ => absurd z_ hf)
    refine ev_aload_n rfl rfl rfl ?_
    refine ev_V0U rfl rfl lk_X10_251 vt_X10_next rfl rfl rfl rfl rfl (c_nextF L b _ hJ.1 hf) ?_
    refine ev_goto rfl rfl ?_
    exact EvQ.drop 3 (l_rtX L b h _ R _ _ hJ (hF _ hf) hf)

set_option maxRecDepth 100000 in
set_option maxHeartbeats 4000000 in
theorem rt_110b (L : Nat) (b : Bool) (h h1 : Hp) (R : Hp → Prop) (hF : ∀ z : Hp, ¬ z 63 21 = 0 → R z) (hJ : JW [(63, 17), (63, 18), (63, 19), (63, 20), (63, 21), (63, 22), (63, 27), (63, 28), (63, 31), (75, 999), (76, 999), (77, 999)] h h1) (wI x : Int32) (e21 : h1 63 21 = 0) (hs : z_is (h1 63 19) (h1 63 20) 40 = 0) : EvQ mi_X10_readTune 110 [some (.ref 63), some (.int wI), some (.int 1), some (.int x)] [] (G0 L b) h1 0 0 (QK R [(63, 17), (63, 18), (63, 19), (63, 20), (63, 21), (63, 22), (63, 27), (63, 28), (63, 31), (75, 999), (76, 999), (77, 999)] (G0 L b) h) := by
  refine ev_aload_n rfl rfl rfl ?_
  refine ev_aload_n rfl rfl rfl ?_
  refine ev_bipush (v := 40) rfl rfl (by decide) ?_
  refine ev_V1D rfl rfl lk_X10_244 vt_X10_isSign rfl rfl rfl rfl rfl (c_isSign L b _ _) ?_
  rw [hs]
  refine ev_iconst (v := 2) rfl rfl (by decide) ?_
  refine ev_V2U rfl rfl lk_X10_230 vt_X10_wants rfl rfl rfl rfl rfl (m_wants L b h1 e21 _) ?_
  refine ev_aload_n rfl rfl rfl ?_
  refine ev_aload_n rfl rfl rfl ?_
  refine ev_getI rfl rfl fl_X10_241 rfl rfl rfl ?_
  try simp (disch := decide) only [ev_rd1, ev_rd2, ev_rd3]
  refine ev_iconst (v := 4) rfl rfl (by decide) ?_
  refine ev_icmp_ge rfl rfl (fun c_127 => ?_) (fun c_127 => ?_)
  · refine ev_iconst (v := 0) rfl rfl (by decide) ?_
    refine ev_iconst (v := 5) rfl rfl (by decide) ?_
    refine ev_V2U rfl rfl lk_X10_230 vt_X10_wants rfl rfl rfl rfl rfl (c_wantsF L b _ _ _ (by simp (disch := decide) only [ev_rd1, ev_rd2, ev_rd3]; decide)) ?_
    refine ev_aload_n rfl rfl rfl ?_
    refine ev_getI rfl rfl fl_X10_191 rfl rfl rfl ?_
    try simp (disch := decide) only [ev_rd1, ev_rd2, ev_rd3]
    refine ev_if_ne rfl rfl (fun c_143 => ?_) (fun z_ => absurd z_ (by decide))
    refine ev_aload_n rfl rfl rfl ?_
    refine ev_V0U rfl rfl lk_X10_251 vt_X10_next rfl rfl rfl rfl rfl (c_nextF L b _ ((hJ.set rfl (by decide)).set rfl (B.any _)).1 (by simp (disch := decide) only [ev_rd1, ev_rd2, ev_rd3]; decide)) ?_
    refine ev_goto rfl rfl ?_
    exact EvQ.drop 3 (l_rtX L b h _ R _ _ ((hJ.set rfl (by decide)).set rfl (B.any _)) (hF _ (by simp (disch := decide) only [ev_rd1, ev_rd2, ev_rd3]; decide)) (by simp (disch := decide) only [ev_rd1, ev_rd2, ev_rd3]; decide))
  · refine ev_iconst (v := 1) rfl rfl (by decide) ?_
    refine ev_goto rfl rfl ?_
    refine ev_iconst (v := 5) rfl rfl (by decide) ?_
    refine ev_V2U rfl rfl lk_X10_230 vt_X10_wants rfl rfl rfl rfl rfl (c_wantsF L b _ _ _ (by simp (disch := decide) only [ev_rd1, ev_rd2, ev_rd3]; decide)) ?_
    refine ev_aload_n rfl rfl rfl ?_
    refine ev_getI rfl rfl fl_X10_191 rfl rfl rfl ?_
    try simp (disch := decide) only [ev_rd1, ev_rd2, ev_rd3]
    refine ev_if_ne rfl rfl (fun c_143 => ?_) (fun z_ => absurd z_ (by decide))
    refine ev_aload_n rfl rfl rfl ?_
    refine ev_V0U rfl rfl lk_X10_251 vt_X10_next rfl rfl rfl rfl rfl (c_nextF L b _ ((hJ.set rfl (by decide)).set rfl (B.any _)).1 (by simp (disch := decide) only [ev_rd1, ev_rd2, ev_rd3]; decide)) ?_
    refine ev_goto rfl rfl ?_
    exact EvQ.drop 3 (l_rtX L b h _ R _ _ ((hJ.set rfl (by decide)).set rfl (B.any _)) (hF _ (by simp (disch := decide) only [ev_rd1, ev_rd2, ev_rd3]; decide)) (by simp (disch := decide) only [ev_rd1, ev_rd2, ev_rd3]; decide))

set_option maxRecDepth 100000 in
set_option maxHeartbeats 4000000 in
theorem rt_110c (L : Nat) (b : Bool) (h h1 : Hp) (R : Hp → Prop) (hF : ∀ z : Hp, ¬ z 63 21 = 0 → R z) (hJ : JW [(63, 17), (63, 18), (63, 19), (63, 20), (63, 21), (63, 22), (63, 27), (63, 28), (63, 31), (75, 999), (76, 999), (77, 999)] h h1) (wI x : Int32) (e21 : h1 63 21 = 0) (hs : ¬ z_is (h1 63 19) (h1 63 20) 40 = 0) (d : Nat) (hd : 4 ≤ d) (hd4 : d ≤ 4) (ed : h1 63 31 = nI d) : EvQ mi_X10_readTune 110 [some (.ref 63), some (.int wI), some (.int 1), some (.int x)] [] (G0 L b) h1 0 0 (QK R [(63, 17), (63, 18), (63, 19), (63, 20), (63, 21), (63, 22), (63, 27), (63, 28), (63, 31), (75, 999), (76, 999), (77, 999)] (G0 L b) h) := by
  refine ev_aload_n rfl rfl rfl ?_
  refine ev_aload_n rfl rfl rfl ?_
  refine ev_bipush (v := 40) rfl rfl (by decide) ?_
  refine ev_V1D rfl rfl lk_X10_244 vt_X10_isSign rfl rfl rfl rfl rfl (c_isSign L b _ _) ?_
  refine ev_iconst (v := 2) rfl rfl (by decide) ?_
  refine ev_V2U rfl rfl lk_X10_230 vt_X10_wants rfl rfl rfl rfl rfl (c_wantsP L b h1 _ _ hs) ?_
  refine ev_aload_n rfl rfl rfl ?_
  refine ev_aload_n rfl rfl rfl ?_
  refine ev_getI rfl rfl fl_X10_241 rfl rfl rfl ?_
  try simp (disch := decide) only [ev_rd1, ev_rd2, ev_rd3, ed]
  refine ev_iconst (v := 4) rfl rfl (by decide) ?_
  refine ev_icmp_ge rfl rfl (fun c_127 => ?_) (fun z_ => absurd ((nI_le2 (a := 4) (b := d) (by decide) (by omega)).mpr hd) z_)
  refine ev_iconst (v := 0) rfl rfl (by decide) ?_
  refine ev_iconst (v := 5) rfl rfl (by decide) ?_
  refine ev_V2U rfl rfl lk_X10_230 vt_X10_wants rfl rfl rfl rfl rfl (m_wants L b h1 e21 _) ?_
  refine ev_aload_n rfl rfl rfl ?_
  refine ev_getI rfl rfl fl_X10_191 rfl rfl rfl ?_
  try simp (disch := decide) only [ev_rd1, ev_rd2, ev_rd3, ed]
  refine ev_if_ne rfl rfl (fun c_143 => ?_) (fun z_ => absurd z_ (by decide))
  refine ev_aload_n rfl rfl rfl ?_
  refine ev_V0U rfl rfl lk_X10_251 vt_X10_next rfl rfl rfl rfl rfl (c_nextF L b _ ((hJ.set rfl (by decide)).set rfl (B.any _)).1 (by simp (disch := decide) only [ev_rd1, ev_rd2, ev_rd3]; decide)) ?_
  refine ev_goto rfl rfl ?_
  exact EvQ.drop 3 (l_rtX L b h _ R _ _ ((hJ.set rfl (by decide)).set rfl (B.any _)) (hF _ (by simp (disch := decide) only [ev_rd1, ev_rd2, ev_rd3]; decide)) (by simp (disch := decide) only [ev_rd1, ev_rd2, ev_rd3]; decide))

theorem mr_push {m d v q : Nat} {r : Nat → Int32} {bg rd : Nat → Nat} {h : Hp} (hR : MR m r d bg rd h) (hd : d < 4) (eq : h 63 27 = nI q) (hq : q ≤ 60) : MR m r (d + 1) (p_un bg d m) (p_un rd d v) (ev_set (ev_set (ev_set h 76 d (nI q)) 77 d (nI v)) 63 31 (nI (d + 1))) := by
  obtain ⟨a1, a2, q', a3, a4, a5, a6, a7⟩ := hR
  have e : q' = q := (nI_eq (by omega) (by omega)).mp (a3.symm.trans eq)
  subst e
  refine ⟨ev_rd1 _ _ _ _, fun i hi => ?_, q', by simp (disch := decide) only [ev_rd1, ev_rd2, ev_rd3]; exact a3, a4, fun i hi => ?_, fun z => ?_, fun z => ?_⟩
  · rw [ev_rd2 (by decide), ev_sj]
    unfold p_un
    by_cases w : i = d
    · rw [if_pos w, if_pos w]
    · rw [if_neg w, if_neg w, ev_rd2 (by decide)]; exact a2 i (by omega)
  · rw [ev_rd2 (by decide), ev_rd2 (by decide), ev_sj]
    unfold p_un
    by_cases w : i = d
    · exact ⟨q', by rw [if_pos w], Nat.le_refl _, fun z => by rw [if_pos w]; exact (a6 z).1⟩
    · obtain ⟨a, b1, b2, b3⟩ := a5 i (by omega)
      exact ⟨a, by rw [if_neg w]; exact b1, b2, fun z => by rw [if_neg w]; exact b3 z⟩
  · obtain ⟨b1, b2, b3⟩ := a6 z
    exact ⟨b1, by simp (disch := decide) only [ev_rd1, ev_rd2, ev_rd3]; exact b2, fun i hi => by simp (disch := decide) only [ev_rd1, ev_rd2, ev_rd3]; exact b3 i hi⟩
  · rcases a7 z with b1 | b1
    · exact Or.inl (by simp (disch := decide) only [ev_rd1, ev_rd2, ev_rd3]; exact b1)
    · exact Or.inr b1

theorem nI_20 {a : Nat} (h : a ≤ 20) : B (nI a) 0 20 := nI_B (by omega) (by omega)
set_option maxRecDepth 100000 in
set_option maxHeartbeats 4000000 in
theorem rt_110s (L : Nat) (b : Bool) (h h1 : Hp) (T : Nat → Int32) (n m : Nat) (r : Nat → Int32) (d : Nat) (bg rd : Nat → Nat) (hn : n ≤ 160) (hJ : JW [(63, 17), (63, 18), (63, 19), (63, 20), (63, 21), (63, 22), (63, 27), (63, 28), (63, 31), (75, 999), (76, 999), (77, 999)] h h1) (e1 : h1 63 16 = nI n) (eT : ∀ j, h1 72 j = T j) (hR : MR m r d bg rd h1) (hm : m ≤ 25) (hd4 : d ≤ 4) (hb : ∀ i, i < d → bg i ≤ m ∧ 1 ≤ rd i ∧ rd i ≤ 20) (e : Nat) (he : e ≤ n) (e17 : h1 63 17 = nI e) (e21 : h1 63 21 = 0) (Q : Pst) (wI : Int32) (v : Nat) (hv1 : 1 ≤ v) (hv20 : v ≤ 20) (hs : ¬ z_is (h1 63 19) (h1 63 20) 40 = 0) (hd : d < 4) (kk : ∀ h2 : Hp, JW [(63, 17), (63, 18), (63, 19), (63, 20), (63, 21), (63, 22), (63, 27), (63, 28), (63, 31), (75, 999), (76, 999), (77, 999)] h h2 → h2 63 16 = nI n → (∀ j, h2 72 j = T j) → MTK (p_tok T n e) h2 → MR m r (d + 1) (p_un bg d m) (p_un rd d v) h2 → EvQ mi_X10_readTune 19 [some (.ref 63), some (.int 1), some (.int 1), none] [] (G0 L b) h2 0 0 Q)  : EvQ mi_X10_readTune 110 [some (.ref 63), some (.int wI), some (.int 1), some (.int (nI v))] [] (G0 L b) h1 0 0 Q := by
  obtain ⟨a1, a2, q, eq, hq, a5, a6, a7⟩ := id hR
  refine ev_aload_n rfl rfl rfl ?_
  refine ev_aload_n rfl rfl rfl ?_
  refine ev_bipush (v := 40) rfl rfl (by decide) ?_
  refine ev_V1D rfl rfl lk_X10_244 vt_X10_isSign rfl rfl rfl rfl rfl (c_isSign L b _ _) ?_
  refine ev_iconst (v := 2) rfl rfl (by decide) ?_
  refine ev_V2U rfl rfl lk_X10_230 vt_X10_wants rfl rfl rfl rfl rfl (c_wantsP L b h1 _ _ hs) ?_
  refine ev_aload_n rfl rfl rfl ?_
  refine ev_aload_n rfl rfl rfl ?_
  refine ev_getI rfl rfl fl_X10_241 rfl rfl rfl ?_
  try simp (disch := decide) only [ev_rd1, ev_rd2, ev_rd3, a1, eq]
  refine ev_iconst (v := 4) rfl rfl (by decide) ?_
  refine ev_icmp_ge rfl rfl (fun z_ => absurd z_ (fun z_ => absurd ((nI_le2 (a := 4) (b := d) (by decide) (by omega)).mp z_) (by omega))) (fun c_127 => ?_)
  refine ev_iconst (v := 1) rfl rfl (by decide) ?_
  refine ev_goto rfl rfl ?_
  refine ev_iconst (v := 5) rfl rfl (by decide) ?_
  refine ev_V2U rfl rfl lk_X10_230 vt_X10_wants rfl rfl rfl rfl rfl (c_wantsP L b h1 _ _ (by decide)) ?_
  refine ev_aload_n rfl rfl rfl ?_
  refine ev_getI rfl rfl fl_X10_191 rfl rfl rfl ?_
  try simp (disch := decide) only [ev_rd1, ev_rd2, ev_rd3, a1, eq]
  refine ev_if_ne rfl rfl (fun z_ => absurd e21 z_) (fun c_143 => ?_)
  refine ev_aload_n rfl rfl rfl ?_
  refine ev_getR rfl rfl fl_X10_60 rfl rfl rfl rfl ?_
  refine ev_aload_n rfl rfl rfl ?_
  refine ev_getI rfl rfl fl_X10_241 rfl rfl rfl ?_
  try simp (disch := decide) only [ev_rd1, ev_rd2, ev_rd3, a1, eq]
  refine ev_aload_n rfl rfl rfl ?_
  refine ev_getI rfl rfl fl_X10_234 rfl rfl rfl ?_
  try simp (disch := decide) only [ev_rd1, ev_rd2, ev_rd3, a1, eq]
  refine ev_iast rfl rfl rfl rfl (vp_in_nI (by omega) (by decide)) (nI_clamp (by omega)) ?_
  refine ev_aload_n rfl rfl rfl ?_
  refine ev_getR rfl rfl fl_X10_63 rfl rfl rfl rfl ?_
  refine ev_aload_n rfl rfl rfl ?_
  refine ev_getI rfl rfl fl_X10_241 rfl rfl rfl ?_
  try simp (disch := decide) only [ev_rd1, ev_rd2, ev_rd3, a1, eq]
  refine ev_iload_n rfl rfl rfl ?_
  refine ev_iast rfl rfl rfl rfl (vp_in_nI (by omega) (by decide)) (nI_clamp (by omega)) ?_
  refine ev_aload_n rfl rfl rfl ?_
  refine ev_dup rfl rfl rfl ?_
  refine ev_getI rfl rfl fl_X10_241 rfl rfl rfl ?_
  try simp (disch := decide) only [ev_rd1, ev_rd2, ev_rd3, a1, eq]
  refine ev_iconst (v := 1) rfl rfl (by decide) ?_
  refine ev_iadd rfl rfl ?_
  refine ev_putI rfl rfl fl_X10_241 rfl rfl rfl rfl rfl ?_
  rw [nI_1 d]
  refine ev_iconst (v := 1) rfl rfl (by decide) ?_
  refine ev_istore_n rfl rfl rfl rfl ?_
  dsimp only [List.set]
  refine ev_aload_n rfl rfl rfl ?_
  refine ev_V0K (((hJ.set rfl (nI_60 hq)).set rfl (nI_20 hv20)).set rfl (nI_4 (by omega))) rfl rfl rfl lk_X10_251 vt_X10_next rfl rfl rfl rfl rfl (w_nextM L b _ (((hJ.set rfl (nI_60 hq)).set rfl (nI_20 hv20)).set rfl (nI_4 (by omega))).1 T n e hn he (by simp (disch := decide) only [ev_rd1, ev_rd2, ev_rd3]; exact e1) (fun j => by simp (disch := decide) only [ev_rd1, ev_rd2, ev_rd3]; exact eT j) (by simp (disch := decide) only [ev_rd1, ev_rd2, ev_rd3]; exact e17) (by simp (disch := decide) only [ev_rd1, ev_rd2, ev_rd3]; exact e21)) (fun h2 j2 k2 m2 => ?_)
  refine ev_goto rfl rfl ?_
  exact EvQ.drop 3 (kk h2 j2 ((k2.2 63 16 rfl).trans (by simp (disch := decide) only [ev_rd1, ev_rd2, ev_rd3]; exact e1)) (fun j => (k2.2 72 j rfl).trans (by simp (disch := decide) only [ev_rd1, ev_rd2, ev_rd3]; exact eT j)) m2 (MR.call (mr_push hR hd eq hq) k2 rfl rfl rfl (fun _ => rfl) (fun _ => rfl) (fun _ => rfl)))

set_option maxRecDepth 100000 in
set_option maxHeartbeats 4000000 in
theorem rt_4z (L : Nat) (b : Bool) (h h1 : Hp) (R : Hp → Prop) (hF : ∀ z : Hp, ¬ z 63 21 = 0 → R z) (hJ : JW [(63, 17), (63, 18), (63, 19), (63, 20), (63, 21), (63, 22), (63, 27), (63, 28), (63, 31), (75, 999), (76, 999), (77, 999)] h h1) (e21 : h1 63 21 = 0) (wI : Int32) (e19 : h1 63 19 = 3) (e20 : h1 63 20 = 40)  : EvQ mi_X10_readTune 19 [some (.ref 63), some (.int wI), some (.int 1), none] [] (G0 L b) h1 0 0 (QK R [(63, 17), (63, 18), (63, 19), (63, 20), (63, 21), (63, 22), (63, 27), (63, 28), (63, 31), (75, 999), (76, 999), (77, 999)] (G0 L b) h) := by
  refine ev_iload_n rfl rfl rfl ?_
  refine ev_if_eq rfl rfl (fun z_ => absurd z_ (by decide)) (fun c_20 => ?_)
  refine ev_aload_n rfl rfl rfl ?_
  refine ev_getI rfl rfl fl_X10_191 rfl rfl rfl ?_
  refine ev_if_ne rfl rfl (fun z_ => absurd e21 z_) (fun c_27 => ?_)
  refine ev_aload_n rfl rfl rfl ?_
  refine ev_getV (v := 3) rfl rfl fl_X10_204 rfl rfl rfl e19 ?_
  refine ev_iconst (v := 1) rfl rfl (by decide) ?_
  refine ev_icmp_eq rfl rfl (fun z_ => absurd z_ (by decide)) (fun c_35 => ?_)
  refine ev_aload_n rfl rfl rfl ?_
  refine ev_bipush (v := 46) rfl rfl (by decide) ?_
  refine ev_V1D rfl rfl lk_X10_244 vt_X10_isSign rfl rfl rfl rfl rfl (show EvD mi_X10_isSign _ _ _ 0 _ from EvD.to (c_isSign L b h1 46) (by rw [e19, e20]; rfl) rfl) ?_
  refine ev_if_eq rfl rfl (fun c_44 => ?_) (fun z_ => absurd (by decide) z_)
  refine ev_aload_n rfl rfl rfl ?_
  refine ev_getV (v := 3) rfl rfl fl_X10_204 rfl rfl rfl e19 ?_
  refine ev_iconst (v := 2) rfl rfl (by decide) ?_
  refine ev_icmp_ne rfl rfl (fun c_81 => ?_) (fun z_ => absurd z_ (by decide))
  refine ev_aload_n rfl rfl rfl ?_
  refine ev_bipush (v := 41) rfl rfl (by decide) ?_
  refine ev_V1D rfl rfl lk_X10_244 vt_X10_isSign rfl rfl rfl rfl rfl (show EvD mi_X10_isSign _ _ _ 0 _ from EvD.to (c_isSign L b h1 41) (by rw [e19, e20]; rfl) rfl) ?_
  refine ev_if_eq rfl rfl (fun c_194 => ?_) (fun z_ => absurd (by decide) z_)
  refine ev_aload_n rfl rfl rfl ?_
  refine ev_aload_n rfl rfl rfl ?_
  refine ev_getV (v := 3) rfl rfl fl_X10_204 rfl rfl rfl e19 ?_
  refine ev_if_ne rfl rfl (fun c_224 => ?_) (fun z_ => absurd z_ (by decide))
  refine ev_iconst (v := 0) rfl rfl (by decide) ?_
  refine ev_iconst (v := 2) rfl rfl (by decide) ?_
  refine ev_V2U rfl rfl lk_X10_230 vt_X10_wants rfl rfl rfl rfl rfl (m_wants L b h1 e21 _) ?_
  refine ev_iconst (v := 0) rfl rfl (by decide) ?_
  refine ev_istore_n rfl rfl rfl rfl ?_
  dsimp only [List.set]
  refine ev_goto rfl rfl ?_
  exact (l_rtX L b h _ R _ _ ((hJ.set rfl (by decide)).set rfl (B.any _)) (hF _ (by simp (disch := decide) only [ev_rd1, ev_rd2, ev_rd3]; decide)) (by simp (disch := decide) only [ev_rd1, ev_rd2, ev_rd3]; decide))

set_option maxRecDepth 100000 in
set_option maxHeartbeats 4000000 in
theorem rt_5w (L : Nat) (b : Bool) (h h1 : Hp) (R : Hp → Prop) (hF : ∀ z : Hp, ¬ z 63 21 = 0 → R z) (hJ : JW [(63, 17), (63, 18), (63, 19), (63, 20), (63, 21), (63, 22), (63, 27), (63, 28), (63, 31), (75, 999), (76, 999), (77, 999)] h h1) (e21 : h1 63 21 = 0) (e19 : h1 63 19 = 3) (e20 : h1 63 20 = 41)  : EvQ mi_X10_readTune 19 [some (.ref 63), some (.int 1), some (.int 1), none] [] (G0 L b) h1 0 0 (QK R [(63, 17), (63, 18), (63, 19), (63, 20), (63, 21), (63, 22), (63, 27), (63, 28), (63, 31), (75, 999), (76, 999), (77, 999)] (G0 L b) h) := by
  refine ev_iload_n rfl rfl rfl ?_
  refine ev_if_eq rfl rfl (fun z_ => absurd z_ (by decide)) (fun c_20 => ?_)
  refine ev_aload_n rfl rfl rfl ?_
  refine ev_getI rfl rfl fl_X10_191 rfl rfl rfl ?_
  refine ev_if_ne rfl rfl (fun z_ => absurd e21 z_) (fun c_27 => ?_)
  refine ev_aload_n rfl rfl rfl ?_
  refine ev_getV (v := 3) rfl rfl fl_X10_204 rfl rfl rfl e19 ?_
  refine ev_iconst (v := 1) rfl rfl (by decide) ?_
  refine ev_icmp_eq rfl rfl (fun z_ => absurd z_ (by decide)) (fun c_35 => ?_)
  refine ev_aload_n rfl rfl rfl ?_
  refine ev_bipush (v := 46) rfl rfl (by decide) ?_
  refine ev_V1D rfl rfl lk_X10_244 vt_X10_isSign rfl rfl rfl rfl rfl (show EvD mi_X10_isSign _ _ _ 0 _ from EvD.to (c_isSign L b h1 46) (by rw [e19, e20]; rfl) rfl) ?_
  refine ev_if_eq rfl rfl (fun c_44 => ?_) (fun z_ => absurd (by decide) z_)
  refine ev_aload_n rfl rfl rfl ?_
  refine ev_getV (v := 3) rfl rfl fl_X10_204 rfl rfl rfl e19 ?_
  refine ev_iconst (v := 2) rfl rfl (by decide) ?_
  refine ev_icmp_ne rfl rfl (fun c_81 => ?_) (fun z_ => absurd z_ (by decide))
  refine ev_aload_n rfl rfl rfl ?_
  refine ev_bipush (v := 41) rfl rfl (by decide) ?_
  refine ev_V1D rfl rfl lk_X10_244 vt_X10_isSign rfl rfl rfl rfl rfl (show EvD mi_X10_isSign _ _ _ 1 _ from EvD.to (c_isSign L b h1 41) (by rw [e19, e20]; rfl) rfl) ?_
  refine ev_if_eq rfl rfl (fun z_ => absurd z_ (by decide)) (fun c_194 => ?_)
  refine ev_aload_n rfl rfl rfl ?_
  refine ev_getI rfl rfl fl_X10_241 rfl rfl rfl ?_
  refine ev_if_le rfl rfl (fun c_201 => ?_) (fun c_201 => ?_)
  · refine ev_aload_n rfl rfl rfl ?_
    refine ev_aload_n rfl rfl rfl ?_
    refine ev_getV (v := 3) rfl rfl fl_X10_204 rfl rfl rfl e19 ?_
    refine ev_if_ne rfl rfl (fun c_224 => ?_) (fun z_ => absurd z_ (by decide))
    refine ev_iconst (v := 0) rfl rfl (by decide) ?_
    refine ev_iconst (v := 2) rfl rfl (by decide) ?_
    refine ev_V2U rfl rfl lk_X10_230 vt_X10_wants rfl rfl rfl rfl rfl (m_wants L b h1 e21 _) ?_
    refine ev_iconst (v := 0) rfl rfl (by decide) ?_
    refine ev_istore_n rfl rfl rfl rfl ?_
    dsimp only [List.set]
    refine ev_goto rfl rfl ?_
    exact (l_rtX L b h _ R _ _ ((hJ.set rfl (by decide)).set rfl (B.any _)) (hF _ (by simp (disch := decide) only [ev_rd1, ev_rd2, ev_rd3]; decide)) (by simp (disch := decide) only [ev_rd1, ev_rd2, ev_rd3]; decide))
  · refine ev_iload_n rfl rfl rfl ?_
    refine ev_if_ne rfl rfl (fun c_205 => ?_) (fun z_ => absurd z_ (by decide))
    refine ev_aload_n rfl rfl rfl ?_
    refine ev_aload_n rfl rfl rfl ?_
    refine ev_getV (v := 3) rfl rfl fl_X10_204 rfl rfl rfl e19 ?_
    refine ev_if_ne rfl rfl (fun c_224 => ?_) (fun z_ => absurd z_ (by decide))
    refine ev_iconst (v := 0) rfl rfl (by decide) ?_
    refine ev_iconst (v := 2) rfl rfl (by decide) ?_
    refine ev_V2U rfl rfl lk_X10_230 vt_X10_wants rfl rfl rfl rfl rfl (m_wants L b h1 e21 _) ?_
    refine ev_iconst (v := 0) rfl rfl (by decide) ?_
    refine ev_istore_n rfl rfl rfl rfl ?_
    dsimp only [List.set]
    refine ev_goto rfl rfl ?_
    exact (l_rtX L b h _ R _ _ ((hJ.set rfl (by decide)).set rfl (B.any _)) (hF _ (by simp (disch := decide) only [ev_rd1, ev_rd2, ev_rd3]; decide)) (by simp (disch := decide) only [ev_rd1, ev_rd2, ev_rd3]; decide))

set_option maxRecDepth 100000 in
set_option maxHeartbeats 4000000 in
theorem rt_5d (L : Nat) (b : Bool) (h h1 : Hp) (R : Hp → Prop) (hF : ∀ z : Hp, ¬ z 63 21 = 0 → R z) (hJ : JW [(63, 17), (63, 18), (63, 19), (63, 20), (63, 21), (63, 22), (63, 27), (63, 28), (63, 31), (75, 999), (76, 999), (77, 999)] h h1) (e21 : h1 63 21 = 0) (wI : Int32) (ed : h1 63 31 = 0) (e19 : h1 63 19 = 3) (e20 : h1 63 20 = 41)  : EvQ mi_X10_readTune 19 [some (.ref 63), some (.int wI), some (.int 1), none] [] (G0 L b) h1 0 0 (QK R [(63, 17), (63, 18), (63, 19), (63, 20), (63, 21), (63, 22), (63, 27), (63, 28), (63, 31), (75, 999), (76, 999), (77, 999)] (G0 L b) h) := by
  refine ev_iload_n rfl rfl rfl ?_
  refine ev_if_eq rfl rfl (fun z_ => absurd z_ (by decide)) (fun c_20 => ?_)
  refine ev_aload_n rfl rfl rfl ?_
  refine ev_getI rfl rfl fl_X10_191 rfl rfl rfl ?_
  refine ev_if_ne rfl rfl (fun z_ => absurd e21 z_) (fun c_27 => ?_)
  refine ev_aload_n rfl rfl rfl ?_
  refine ev_getV (v := 3) rfl rfl fl_X10_204 rfl rfl rfl e19 ?_
  refine ev_iconst (v := 1) rfl rfl (by decide) ?_
  refine ev_icmp_eq rfl rfl (fun z_ => absurd z_ (by decide)) (fun c_35 => ?_)
  refine ev_aload_n rfl rfl rfl ?_
  refine ev_bipush (v := 46) rfl rfl (by decide) ?_
  refine ev_V1D rfl rfl lk_X10_244 vt_X10_isSign rfl rfl rfl rfl rfl (show EvD mi_X10_isSign _ _ _ 0 _ from EvD.to (c_isSign L b h1 46) (by rw [e19, e20]; rfl) rfl) ?_
  refine ev_if_eq rfl rfl (fun c_44 => ?_) (fun z_ => absurd (by decide) z_)
  refine ev_aload_n rfl rfl rfl ?_
  refine ev_getV (v := 3) rfl rfl fl_X10_204 rfl rfl rfl e19 ?_
  refine ev_iconst (v := 2) rfl rfl (by decide) ?_
  refine ev_icmp_ne rfl rfl (fun c_81 => ?_) (fun z_ => absurd z_ (by decide))
  refine ev_aload_n rfl rfl rfl ?_
  refine ev_bipush (v := 41) rfl rfl (by decide) ?_
  refine ev_V1D rfl rfl lk_X10_244 vt_X10_isSign rfl rfl rfl rfl rfl (show EvD mi_X10_isSign _ _ _ 1 _ from EvD.to (c_isSign L b h1 41) (by rw [e19, e20]; rfl) rfl) ?_
  refine ev_if_eq rfl rfl (fun z_ => absurd z_ (by decide)) (fun c_194 => ?_)
  refine ev_aload_n rfl rfl rfl ?_
  refine ev_getI rfl rfl fl_X10_241 rfl rfl rfl ?_
  refine ev_if_le rfl rfl (fun c_201 => ?_) (fun z_ => absurd (by rw [ed]; exact Int32.le_refl _) z_)
  refine ev_aload_n rfl rfl rfl ?_
  refine ev_aload_n rfl rfl rfl ?_
  refine ev_getV (v := 3) rfl rfl fl_X10_204 rfl rfl rfl e19 ?_
  refine ev_if_ne rfl rfl (fun c_224 => ?_) (fun z_ => absurd z_ (by decide))
  refine ev_iconst (v := 0) rfl rfl (by decide) ?_
  refine ev_iconst (v := 2) rfl rfl (by decide) ?_
  refine ev_V2U rfl rfl lk_X10_230 vt_X10_wants rfl rfl rfl rfl rfl (m_wants L b h1 e21 _) ?_
  refine ev_iconst (v := 0) rfl rfl (by decide) ?_
  refine ev_istore_n rfl rfl rfl rfl ?_
  dsimp only [List.set]
  refine ev_goto rfl rfl ?_
  exact (l_rtX L b h _ R _ _ ((hJ.set rfl (by decide)).set rfl (B.any _)) (hF _ (by simp (disch := decide) only [ev_rd1, ev_rd2, ev_rd3]; decide)) (by simp (disch := decide) only [ev_rd1, ev_rd2, ev_rd3]; decide))

set_option maxRecDepth 100000 in
set_option maxHeartbeats 4000000 in
theorem rt_0w (L : Nat) (b : Bool) (h h1 : Hp) (R : Hp → Prop) (hF : ∀ z : Hp, ¬ z 63 21 = 0 → R z) (hJ : JW [(63, 17), (63, 18), (63, 19), (63, 20), (63, 21), (63, 22), (63, 27), (63, 28), (63, 31), (75, 999), (76, 999), (77, 999)] h h1) (e21 : h1 63 21 = 0) (e19 : h1 63 19 = 0)  : EvQ mi_X10_readTune 19 [some (.ref 63), some (.int 1), some (.int 1), none] [] (G0 L b) h1 0 0 (QK R [(63, 17), (63, 18), (63, 19), (63, 20), (63, 21), (63, 22), (63, 27), (63, 28), (63, 31), (75, 999), (76, 999), (77, 999)] (G0 L b) h) := by
  refine ev_iload_n rfl rfl rfl ?_
  refine ev_if_eq rfl rfl (fun z_ => absurd z_ (by decide)) (fun c_20 => ?_)
  refine ev_aload_n rfl rfl rfl ?_
  refine ev_getI rfl rfl fl_X10_191 rfl rfl rfl ?_
  refine ev_if_ne rfl rfl (fun z_ => absurd e21 z_) (fun c_27 => ?_)
  refine ev_aload_n rfl rfl rfl ?_
  refine ev_getV (v := 0) rfl rfl fl_X10_204 rfl rfl rfl e19 ?_
  refine ev_iconst (v := 1) rfl rfl (by decide) ?_
  refine ev_icmp_eq rfl rfl (fun z_ => absurd z_ (by decide)) (fun c_35 => ?_)
  refine ev_aload_n rfl rfl rfl ?_
  refine ev_bipush (v := 46) rfl rfl (by decide) ?_
  refine ev_V1D rfl rfl lk_X10_244 vt_X10_isSign rfl rfl rfl rfl rfl (show EvD mi_X10_isSign _ _ _ 0 _ from EvD.to (c_isSign L b h1 46) (by unfold z_is; rw [e19]; rfl) rfl) ?_
  refine ev_if_eq rfl rfl (fun c_44 => ?_) (fun z_ => absurd (by decide) z_)
  refine ev_aload_n rfl rfl rfl ?_
  refine ev_getV (v := 0) rfl rfl fl_X10_204 rfl rfl rfl e19 ?_
  refine ev_iconst (v := 2) rfl rfl (by decide) ?_
  refine ev_icmp_ne rfl rfl (fun c_81 => ?_) (fun z_ => absurd z_ (by decide))
  refine ev_aload_n rfl rfl rfl ?_
  refine ev_bipush (v := 41) rfl rfl (by decide) ?_
  refine ev_V1D rfl rfl lk_X10_244 vt_X10_isSign rfl rfl rfl rfl rfl (show EvD mi_X10_isSign _ _ _ 0 _ from EvD.to (c_isSign L b h1 41) (by unfold z_is; rw [e19]; rfl) rfl) ?_
  refine ev_if_eq rfl rfl (fun c_194 => ?_) (fun z_ => absurd (by decide) z_)
  refine ev_aload_n rfl rfl rfl ?_
  refine ev_aload_n rfl rfl rfl ?_
  refine ev_getV (v := 0) rfl rfl fl_X10_204 rfl rfl rfl e19 ?_
  refine ev_if_ne rfl rfl (fun z_ => absurd (by decide) z_) (fun c_224 => ?_)
  refine ev_aload_n rfl rfl rfl ?_
  refine ev_getI rfl rfl fl_X10_241 rfl rfl rfl ?_
  refine ev_if_ne rfl rfl (fun c_231 => ?_) (fun c_231 => ?_)
  · refine ev_iconst (v := 0) rfl rfl (by decide) ?_
    refine ev_iconst (v := 2) rfl rfl (by decide) ?_
    refine ev_V2U rfl rfl lk_X10_230 vt_X10_wants rfl rfl rfl rfl rfl (m_wants L b h1 e21 _) ?_
    refine ev_iconst (v := 0) rfl rfl (by decide) ?_
    refine ev_istore_n rfl rfl rfl rfl ?_
    dsimp only [List.set]
    refine ev_goto rfl rfl ?_
    exact (l_rtX L b h _ R _ _ ((hJ.set rfl (by decide)).set rfl (B.any _)) (hF _ (by simp (disch := decide) only [ev_rd1, ev_rd2, ev_rd3]; decide)) (by simp (disch := decide) only [ev_rd1, ev_rd2, ev_rd3]; decide))
  · refine ev_iload_n rfl rfl rfl ?_
    refine ev_if_ne rfl rfl (fun c_235 => ?_) (fun z_ => absurd z_ (by decide))
    refine ev_iconst (v := 0) rfl rfl (by decide) ?_
    refine ev_iconst (v := 2) rfl rfl (by decide) ?_
    refine ev_V2U rfl rfl lk_X10_230 vt_X10_wants rfl rfl rfl rfl rfl (m_wants L b h1 e21 _) ?_
    refine ev_iconst (v := 0) rfl rfl (by decide) ?_
    refine ev_istore_n rfl rfl rfl rfl ?_
    dsimp only [List.set]
    refine ev_goto rfl rfl ?_
    exact (l_rtX L b h _ R _ _ ((hJ.set rfl (by decide)).set rfl (B.any _)) (hF _ (by simp (disch := decide) only [ev_rd1, ev_rd2, ev_rd3]; decide)) (by simp (disch := decide) only [ev_rd1, ev_rd2, ev_rd3]; decide))

set_option maxRecDepth 100000 in
set_option maxHeartbeats 4000000 in
theorem rt_0d (L : Nat) (b : Bool) (h h1 : Hp) (R : Hp → Prop) (hF : ∀ z : Hp, ¬ z 63 21 = 0 → R z) (hJ : JW [(63, 17), (63, 18), (63, 19), (63, 20), (63, 21), (63, 22), (63, 27), (63, 28), (63, 31), (75, 999), (76, 999), (77, 999)] h h1) (e21 : h1 63 21 = 0) (wI : Int32) (ed : ¬ h1 63 31 = 0) (e19 : h1 63 19 = 0)  : EvQ mi_X10_readTune 19 [some (.ref 63), some (.int wI), some (.int 1), none] [] (G0 L b) h1 0 0 (QK R [(63, 17), (63, 18), (63, 19), (63, 20), (63, 21), (63, 22), (63, 27), (63, 28), (63, 31), (75, 999), (76, 999), (77, 999)] (G0 L b) h) := by
  refine ev_iload_n rfl rfl rfl ?_
  refine ev_if_eq rfl rfl (fun z_ => absurd z_ (by decide)) (fun c_20 => ?_)
  refine ev_aload_n rfl rfl rfl ?_
  refine ev_getI rfl rfl fl_X10_191 rfl rfl rfl ?_
  refine ev_if_ne rfl rfl (fun z_ => absurd e21 z_) (fun c_27 => ?_)
  refine ev_aload_n rfl rfl rfl ?_
  refine ev_getV (v := 0) rfl rfl fl_X10_204 rfl rfl rfl e19 ?_
  refine ev_iconst (v := 1) rfl rfl (by decide) ?_
  refine ev_icmp_eq rfl rfl (fun z_ => absurd z_ (by decide)) (fun c_35 => ?_)
  refine ev_aload_n rfl rfl rfl ?_
  refine ev_bipush (v := 46) rfl rfl (by decide) ?_
  refine ev_V1D rfl rfl lk_X10_244 vt_X10_isSign rfl rfl rfl rfl rfl (show EvD mi_X10_isSign _ _ _ 0 _ from EvD.to (c_isSign L b h1 46) (by unfold z_is; rw [e19]; rfl) rfl) ?_
  refine ev_if_eq rfl rfl (fun c_44 => ?_) (fun z_ => absurd (by decide) z_)
  refine ev_aload_n rfl rfl rfl ?_
  refine ev_getV (v := 0) rfl rfl fl_X10_204 rfl rfl rfl e19 ?_
  refine ev_iconst (v := 2) rfl rfl (by decide) ?_
  refine ev_icmp_ne rfl rfl (fun c_81 => ?_) (fun z_ => absurd z_ (by decide))
  refine ev_aload_n rfl rfl rfl ?_
  refine ev_bipush (v := 41) rfl rfl (by decide) ?_
  refine ev_V1D rfl rfl lk_X10_244 vt_X10_isSign rfl rfl rfl rfl rfl (show EvD mi_X10_isSign _ _ _ 0 _ from EvD.to (c_isSign L b h1 41) (by unfold z_is; rw [e19]; rfl) rfl) ?_
  refine ev_if_eq rfl rfl (fun c_194 => ?_) (fun z_ => absurd (by decide) z_)
  refine ev_aload_n rfl rfl rfl ?_
  refine ev_aload_n rfl rfl rfl ?_
  refine ev_getV (v := 0) rfl rfl fl_X10_204 rfl rfl rfl e19 ?_
  refine ev_if_ne rfl rfl (fun z_ => absurd (by decide) z_) (fun c_224 => ?_)
  refine ev_aload_n rfl rfl rfl ?_
  refine ev_getI rfl rfl fl_X10_241 rfl rfl rfl ?_
  refine ev_if_ne rfl rfl (fun c_231 => ?_) (fun z_ => absurd z_ ed)
  refine ev_iconst (v := 0) rfl rfl (by decide) ?_
  refine ev_iconst (v := 2) rfl rfl (by decide) ?_
  refine ev_V2U rfl rfl lk_X10_230 vt_X10_wants rfl rfl rfl rfl rfl (m_wants L b h1 e21 _) ?_
  refine ev_iconst (v := 0) rfl rfl (by decide) ?_
  refine ev_istore_n rfl rfl rfl rfl ?_
  dsimp only [List.set]
  refine ev_goto rfl rfl ?_
  exact (l_rtX L b h _ R _ _ ((hJ.set rfl (by decide)).set rfl (B.any _)) (hF _ (by simp (disch := decide) only [ev_rd1, ev_rd2, ev_rd3]; decide)) (by simp (disch := decide) only [ev_rd1, ev_rd2, ev_rd3]; decide))

set_option maxRecDepth 100000 in
set_option maxHeartbeats 4000000 in
theorem rt_0 (L : Nat) (b : Bool) (h h1 : Hp) (Q : Pst) (e21 : h1 63 21 = 0) (e19 : h1 63 19 = 0) (ed : h1 63 31 = 0) (k0 : EvQ mi_X10_readTune 19 [some (.ref 63), some (.int 0), some (.int 0), none] [] (G0 L b) h1 0 0 Q) : EvQ mi_X10_readTune 19 [some (.ref 63), some (.int 0), some (.int 1), none] [] (G0 L b) h1 0 0 Q := by
  refine ev_iload_n rfl rfl rfl ?_
  refine ev_if_eq rfl rfl (fun z_ => absurd z_ (by decide)) (fun c_20 => ?_)
  refine ev_aload_n rfl rfl rfl ?_
  refine ev_getI rfl rfl fl_X10_191 rfl rfl rfl ?_
  refine ev_if_ne rfl rfl (fun z_ => absurd e21 z_) (fun c_27 => ?_)
  refine ev_aload_n rfl rfl rfl ?_
  refine ev_getV (v := 0) rfl rfl fl_X10_204 rfl rfl rfl e19 ?_
  refine ev_iconst (v := 1) rfl rfl (by decide) ?_
  refine ev_icmp_eq rfl rfl (fun z_ => absurd z_ (by decide)) (fun c_35 => ?_)
  refine ev_aload_n rfl rfl rfl ?_
  refine ev_bipush (v := 46) rfl rfl (by decide) ?_
  refine ev_V1D rfl rfl lk_X10_244 vt_X10_isSign rfl rfl rfl rfl rfl (show EvD mi_X10_isSign _ _ _ 0 _ from EvD.to (c_isSign L b h1 46) (by unfold z_is; rw [e19]; rfl) rfl) ?_
  refine ev_if_eq rfl rfl (fun c_44 => ?_) (fun z_ => absurd (by decide) z_)
  refine ev_aload_n rfl rfl rfl ?_
  refine ev_getV (v := 0) rfl rfl fl_X10_204 rfl rfl rfl e19 ?_
  refine ev_iconst (v := 2) rfl rfl (by decide) ?_
  refine ev_icmp_ne rfl rfl (fun c_81 => ?_) (fun z_ => absurd z_ (by decide))
  refine ev_aload_n rfl rfl rfl ?_
  refine ev_bipush (v := 41) rfl rfl (by decide) ?_
  refine ev_V1D rfl rfl lk_X10_244 vt_X10_isSign rfl rfl rfl rfl rfl (show EvD mi_X10_isSign _ _ _ 0 _ from EvD.to (c_isSign L b h1 41) (by unfold z_is; rw [e19]; rfl) rfl) ?_
  refine ev_if_eq rfl rfl (fun c_194 => ?_) (fun z_ => absurd (by decide) z_)
  refine ev_aload_n rfl rfl rfl ?_
  refine ev_aload_n rfl rfl rfl ?_
  refine ev_getV (v := 0) rfl rfl fl_X10_204 rfl rfl rfl e19 ?_
  refine ev_if_ne rfl rfl (fun z_ => absurd (by decide) z_) (fun c_224 => ?_)
  refine ev_aload_n rfl rfl rfl ?_
  refine ev_getI rfl rfl fl_X10_241 rfl rfl rfl ?_
  refine ev_if_ne rfl rfl (fun z_ => absurd ed z_) (fun c_231 => ?_)
  refine ev_iload_n rfl rfl rfl ?_
  refine ev_if_ne rfl rfl (fun z_ => absurd (by decide) z_) (fun c_235 => ?_)
  refine ev_iconst (v := 1) rfl rfl (by decide) ?_
  refine ev_goto rfl rfl ?_
  refine ev_iconst (v := 2) rfl rfl (by decide) ?_
  refine ev_V2U rfl rfl lk_X10_230 vt_X10_wants rfl rfl rfl rfl rfl (c_wantsP L b h1 _ _ (by decide)) ?_
  refine ev_iconst (v := 0) rfl rfl (by decide) ?_
  refine ev_istore_n rfl rfl rfl rfl ?_
  dsimp only [List.set]
  refine ev_goto rfl rfl ?_
  exact k0

set_option maxRecDepth 100000 in
set_option maxHeartbeats 4000000 in
theorem rt_5 (L : Nat) (b : Bool) (h h1 : Hp) (T : Nat → Int32) (n m : Nat) (r : Nat → Int32) (d : Nat) (bg rd : Nat → Nat) (hn : n ≤ 160) (hJ : JW [(63, 17), (63, 18), (63, 19), (63, 20), (63, 21), (63, 22), (63, 27), (63, 28), (63, 31), (75, 999), (76, 999), (77, 999)] h h1) (e1 : h1 63 16 = nI n) (eT : ∀ j, h1 72 j = T j) (hR : MR m r d bg rd h1) (hm : m ≤ 25) (hd4 : d ≤ 4) (hb : ∀ i, i < d → bg i ≤ m ∧ 1 ≤ rd i ∧ rd i ≤ 20) (e : Nat) (he : e ≤ n) (e17 : h1 63 17 = nI e) (e21 : h1 63 21 = 0) (Q : Pst) (e19 : h1 63 19 = 3) (e20 : h1 63 20 = 41) (hd : 0 < d) (m' : Nat) (r' : Nat → Int32) (hs : (24 < m ∨ 24 < p_all m (bg (d - 1)) (rd (d - 1))) ∧ m' = 25 ∨ ¬ (24 < m ∨ 24 < p_all m (bg (d - 1)) (rd (d - 1))) ∧ m' = p_all m (bg (d - 1)) (rd (d - 1)) ∧ r' = p_cp (m - bg (d - 1)) (p_all m (bg (d - 1)) (rd (d - 1)) - m) m r) (kk : ∀ h2 : Hp, JW [(63, 17), (63, 18), (63, 19), (63, 20), (63, 21), (63, 22), (63, 27), (63, 28), (63, 31), (75, 999), (76, 999), (77, 999)] h h2 → h2 63 16 = nI n → (∀ j, h2 72 j = T j) → MTK (p_tok T n e) h2 → MR m' r' (d - 1) bg rd h2 → EvQ mi_X10_readTune 19 [some (.ref 63), some (.int 0), some (.int 1), none] [] (G0 L b) h2 0 0 Q)  : EvQ mi_X10_readTune 19 [some (.ref 63), some (.int 0), some (.int 1), none] [] (G0 L b) h1 0 0 Q := by
  obtain ⟨a1, a2, q, eq, hq, a5, a6, a7⟩ := id hR
  have hbd := hb (d - 1) (by omega)
  obtain ⟨a, b1, b2, b3⟩ := a5 (d - 1) (by omega)
  refine ev_iload_n rfl rfl rfl ?_
  refine ev_if_eq rfl rfl (fun z_ => absurd z_ (by decide)) (fun c_20 => ?_)
  refine ev_aload_n rfl rfl rfl ?_
  refine ev_getI rfl rfl fl_X10_191 rfl rfl rfl ?_
  try simp only [a1]
  refine ev_if_ne rfl rfl (fun z_ => absurd e21 z_) (fun c_27 => ?_)
  refine ev_aload_n rfl rfl rfl ?_
  refine ev_getV (v := 3) rfl rfl fl_X10_204 rfl rfl rfl e19 ?_
  refine ev_iconst (v := 1) rfl rfl (by decide) ?_
  refine ev_icmp_eq rfl rfl (fun z_ => absurd z_ (by decide)) (fun c_35 => ?_)
  refine ev_aload_n rfl rfl rfl ?_
  refine ev_bipush (v := 46) rfl rfl (by decide) ?_
  refine ev_V1D rfl rfl lk_X10_244 vt_X10_isSign rfl rfl rfl rfl rfl (show EvD mi_X10_isSign _ _ _ 0 _ from EvD.to (c_isSign L b h1 46) (by rw [e19, e20]; rfl) rfl) ?_
  refine ev_if_eq rfl rfl (fun c_44 => ?_) (fun z_ => absurd (by decide) z_)
  refine ev_aload_n rfl rfl rfl ?_
  refine ev_getV (v := 3) rfl rfl fl_X10_204 rfl rfl rfl e19 ?_
  refine ev_iconst (v := 2) rfl rfl (by decide) ?_
  refine ev_icmp_ne rfl rfl (fun c_81 => ?_) (fun z_ => absurd z_ (by decide))
  refine ev_aload_n rfl rfl rfl ?_
  refine ev_bipush (v := 41) rfl rfl (by decide) ?_
  refine ev_V1D rfl rfl lk_X10_244 vt_X10_isSign rfl rfl rfl rfl rfl (show EvD mi_X10_isSign _ _ _ 1 _ from EvD.to (c_isSign L b h1 41) (by rw [e19, e20]; rfl) rfl) ?_
  refine ev_if_eq rfl rfl (fun z_ => absurd z_ (by decide)) (fun c_194 => ?_)
  refine ev_aload_n rfl rfl rfl ?_
  refine ev_getI rfl rfl fl_X10_241 rfl rfl rfl ?_
  try simp only [a1]
  refine ev_if_le rfl rfl (fun z_ => absurd z_ (fun z_ => absurd ((nI_le2 (a := d) (b := 0) (by omega) (by decide)).mp z_) (by omega))) (fun c_201 => ?_)
  refine ev_iload_n rfl rfl rfl ?_
  refine ev_if_ne rfl rfl (fun z_ => absurd (by decide) z_) (fun c_205 => ?_)
  refine ev_aload_n rfl rfl rfl ?_
  refine ev_V0U rfl rfl lk_X10_254 vt_X10_closes rfl rfl rfl rfl rfl (c_closes L b h1 q hq eq d hd hd4 a1 a (rd (d - 1)) b2 hbd.2.1 hbd.2.2 b1 (a2 (d - 1) (by omega))) ?_
  refine ev_aload_n rfl rfl rfl ?_
  refine ev_V0K (jw_clo (q := q) (a := a) (x := rd (d - 1)) hJ hd4) rfl rfl rfl lk_X10_251 vt_X10_next rfl rfl rfl rfl rfl (w_nextM L b _ (jw_clo (q := q) (a := a) (x := rd (d - 1)) hJ hd4).1 T n e hn he (by rw [k_clo_ne (by decide) (fun z => by first | exact absurd z.1 (by decide) | exact absurd z.2 (by decide))]; exact e1) (fun j => by rw [k_clo_ne (by decide) (fun z => by first | exact absurd z.1 (by decide) | exact absurd z.2 (by decide))]; exact eT j) (by rw [k_clo_ne (by decide) (fun z => by first | exact absurd z.1 (by decide) | exact absurd z.2 (by decide))]; exact e17) (by rw [k_clo_ne (by decide) (fun z => by first | exact absurd z.1 (by decide) | exact absurd z.2 (by decide))]; exact e21)) (fun h2 j2 k2 m2 => ?_)
  refine ev_goto rfl rfl ?_
  exact kk h2 j2 ((k2.2 63 16 rfl).trans (by rw [k_clo_ne (by decide) (fun z => by first | exact absurd z.1 (by decide) | exact absurd z.2 (by decide))]; exact e1)) (fun j => (k2.2 72 j rfl).trans (by rw [k_clo_ne (by decide) (fun z => by first | exact absurd z.1 (by decide) | exact absurd z.2 (by decide))]; exact eT j)) m2 (MR.call (mr_clo hR hd hd4 eq hq b1 rfl hbd.2.1 hbd.2.2 b2 hm (fun i hi => (hb i hi).1) hs) k2 rfl rfl rfl (fun _ => rfl) (fun _ => rfl) (fun _ => rfl))

theorem p_ch_v {T : Nat → Int32} {n : Nat} : ∀ k p v c x, B v 0 4095 → p_ch T n k p v c = some x → B x.1 0 4095
  | 0, p, v, c, x, _, h => by unfold p_ch at h; cases h
  | k + 1, p, v, c, x, hv, h => by
    unfold p_ch at h
    split at h
    · rename_i q
      split at h
      · rename_i q2
        split at h
        · split at h
          · cases h
          · exact p_ch_v k _ _ _ x (p_vB hv q q2) h
        · cases h
      · cases h
    · cases h
      exact hv
theorem p_tok_v {T : Nat → Int32} {n p : Nat} {v : Int32} {e : Nat} (h : p_tok T n p = some (1, v, e)) : B v 0 4095 := by
  unfold p_tok p_at at h
  split at h
  · cases h
  · split at h
    · split at h
      · rename_i x hx
        have z := p_ch_v 6 _ 0 0 x (by decide) hx
        cases h
        exact z
      · cases h
    · split at h
      · split at h
        · cases h
        · cases h
      · split at h
        · cases h
        · split at h
          · cases h
          · split at h
            · cases h
            · cases h

def RTP (o : Option (Nat × (Nat → Int32))) (z : Hp) : Prop := match o with
  | none => ¬ z 63 21 = 0
  | some x => z 63 21 = 0 ∧ z 63 27 = nI x.1 ∧ ∀ i, i < x.1 → z 75 i = x.2 i
theorem l_rt (L : Nat) (b : Bool) (h : Hp) (T : Nat → Int32) (n : Nat) (hn : n ≤ 160) : ∀ (k p w m : Nat) (r : Nat → Int32) (d : Nat) (bg rd : Nat → Nat) (h1 : Hp), n + 1 ≤ p + k → p ≤ n → w ≤ 1 → PI w 0 m d bg rd → JW [(63, 17), (63, 18), (63, 19), (63, 20), (63, 21), (63, 22), (63, 27), (63, 28), (63, 31), (75, 999), (76, 999), (77, 999)] h h1 → h1 63 16 = nI n → (∀ j, h1 72 j = T j) → MTK (p_tok T n p) h1 → MR m r d bg rd h1 → EvQ mi_X10_readTune 19 [some (.ref 63), some (.int (if w = 0 then 1 else 0)), some (.int 1), none] [] (G0 L b) h1 0 0 (QK (RTP (p_run T n k (p, w, 0, m, r, d, bg, rd))) [(63, 17), (63, 18), (63, 19), (63, 20), (63, 21), (63, 22), (63, 27), (63, 28), (63, 31), (75, 999), (76, 999), (77, 999)] (G0 L b) h) := by
  intro k
  induction k using Nat.strongRecOn with
  | ind k ih =>
    intro p w m r d bg rd h1 hk hp hw hI hJ e1 eT ht hR
    obtain ⟨k', rfl⟩ : ∃ k', k = k' + 1 := ⟨k - 1, by omega⟩
    have hw2 : ¬ w = 2 := by omega
    obtain ⟨i1, i2, i3, i4, i5⟩ := id hI
    cases eo : p_tok T n p with
    | none =>
      have er : p_run T n (k' + 1) (p, w, 0, m, r, d, bg, rd) = none := p_run_n (by rw [eo]; rfl)
      rw [er]
      rw [eo] at ht
      exact l_rtX L b h h1 _ _ _ hJ ht ht
    | some y =>
      obtain ⟨t, x, e⟩ := y
      rw [eo] at ht
      obtain ⟨e21, e17, t0, t1, t2, t3, t4, t5⟩ := ht
      have he := p_tok_e hp eo
      have hF : ∀ z : Hp, ¬ z 63 21 = 0 → RTP none z := fun z q => q
      rcases (show t = 0 ∨ t = 1 ∨ t = 2 ∨ t = 3 ∨ t = 4 ∨ t = 5 by omega) with rfl | rfl | rfl | rfl | rfl | rfl
      · have e19 := t0 rfl
        by_cases hc : w = 1 ∧ d = 0
        · obtain ⟨rfl, rfl⟩ := hc
          have ed : h1 63 31 = 0 := hR.1
          obtain ⟨a1, a2, q, a3, a4, a5, a6, a7⟩ := id hR
          refine rt_0 L b h h1 _ e21 e19 ed ?_
          by_cases hm : m ≤ 24
          · have er : p_run T n (k' + 1) (p, 1, 0, m, r, 0, bg, rd) = some (m, r) := p_run_l (by rw [eo]; exact st_0 rfl hm)
            rw [er]
            obtain ⟨b1, b2, b3⟩ := a6 hm
            subst b1
            exact l_rtE1 L b h h1 _ _ hJ q a4 a3 e21 b2 hm ⟨e21, a3, b3⟩
          · have er : p_run T n (k' + 1) (p, 1, 0, m, r, 0, bg, rd) = none := p_run_n (by rw [eo]; exact st_0b rfl hm)
            rw [er]
            by_cases e28 : h1 63 28 = 0
            · exact l_rtE3 L b h h1 _ _ hJ e21 q a4 a3 e28 ((a7 (by omega)).elim (fun z => absurd e28 z) id) hF
            · exact l_rtE2 L b h h1 _ _ hJ e21 e28 hF
        · have er : p_run T n (k' + 1) (p, w, 0, m, r, d, bg, rd) = none := p_run_n (by rw [eo]; exact st_0z hw2 hc)
          rw [er]
          by_cases hw0 : w = 0
          · subst hw0
            exact rt_0w L b h h1 _ hF hJ e21 e19
          · exact rt_0d L b h h1 _ hF hJ e21 _ (fun z => hc ⟨by omega, (nI_eq (a := d) (b := 0) (by omega) (by decide)).mp (hR.1.symm.trans z)⟩) e19
      · obtain ⟨e19, e20⟩ := t1 rfl
        have es : p_stp (p_tok T n p) w 0 m r d bg rd = some (.inr (e, 1, 0, p_mn m, p_ad r m x, d, bg, rd)) := by rw [eo]; exact st_1 hw2
        have g := PI.stp hp hI es
        rw [p_run_r es]
        exact rt_1 L b h h1 T n m r d bg rd hn hJ e1 eT hR i2 i3 i5 e he.1 e17 e21 _ _ x e19 e20 (p_tok_v eo) (fun h2 j2 f1 f2 f3 f4 => ih k' (by omega) e 1 _ _ d bg rd h2 (by omega) he.1 (by omega) g.1 j2 f1 f2 f3 f4)
      · obtain ⟨e19, e20⟩ := t2 rfl
        by_cases hz : z_wi x 1 20 = 0
        · have er : p_run T n (k' + 1) (p, w, 0, m, r, d, bg, rd) = none := p_run_n (by rw [eo]; exact st_2z hw2 hz)
          rw [er]
          exact rt_2z L b h h1 _ hF hJ e21 _ x e19 e20 hz
        · have es : p_stp (p_tok T n p) w 0 m r d bg rd = some (.inr (e, 2, x.toNatClampNeg, m, r, d, bg, rd)) := by rw [eo]; exact st_2 hw2 hz
          have g := PI.stp hp hI es
          have xn := z_num hz
          rw [p_run_r es]
          have hp1 := he.2.1 (by decide)
          obtain ⟨k2, rfl⟩ : ∃ k2, k' = k2 + 1 := ⟨k' - 1, by omega⟩
          refine rt_2 L b h h1 T n m r d bg rd hn hJ e1 eT hR i2 i3 i5 e he.1 e17 e21 _ _ x e19 e20 hz (fun h2 j2 f1 f2 f3 f4 => ?_)
          cases eo2 : p_tok T n e with
          | none =>
            have er : p_run T n (k2 + 1) (e, 2, x.toNatClampNeg, m, r, d, bg, rd) = none := p_run_n (by rw [eo2]; rfl)
            rw [er]
            rw [eo2] at f3
            exact rt_110a L b h h2 _ hF j2 _ x f3
          | some y2 =>
            obtain ⟨u, x2, e2⟩ := y2
            have he2 := p_tok_e he.1 eo2
            rw [eo2] at f3
            obtain ⟨u21, u17, u0, u1, u2, u3, u4, u5⟩ := f3
            by_cases h4 : u = 4
            · subst h4
              obtain ⟨u19, u20⟩ := u4 rfl
              have hs : ¬ z_is (h2 63 19) (h2 63 20) 40 = 0 := by rw [u19, u20]; decide
              by_cases hd : d < 4
              · have es2 : p_stp (p_tok T n e) 2 x.toNatClampNeg m r d bg rd = some (.inr (e2, 0, 0, m, r, d + 1, p_un bg d m, p_un rd d x.toNatClampNeg)) := by rw [eo2]; exact st_o hd
                have g2 := PI.stp he.1 g.1 es2
                rw [p_run_r es2]
                have zz := rt_110s L b h h2 T n m r d bg rd hn j2 f1 f2 f4 i2 i3 i5 e2 he2.1 u17 u21 (QK (RTP (p_run T n k2 (e2, 0, 0, m, r, d + 1, p_un bg d m, p_un rd d x.toNatClampNeg))) [(63, 17), (63, 18), (63, 19), (63, 20), (63, 21), (63, 22), (63, 27), (63, 28), (63, 31), (75, 999), (76, 999), (77, 999)] (G0 L b) h) (if w = 0 then 1 else 0) x.toNatClampNeg xn.2.1 xn.2.2 hs hd (fun h3 j3 v1 v2 v3 v4 => ih k2 (by omega) e2 0 _ _ (d + 1) _ _ h3 (by have := he2.2.1 (by decide); omega) he2.1 (by omega) g2.1 j3 v1 v2 v3 v4)
                rw [← xn.1] at zz
                exact zz
              · have er : p_run T n (k2 + 1) (e, 2, x.toNatClampNeg, m, r, d, bg, rd) = none := p_run_n (by rw [eo2]; exact st_oz hd)
                rw [er]
                exact rt_110c L b h h2 _ hF j2 _ x u21 hs d (by omega) i3 f4.1
            · have er : p_run T n (k2 + 1) (e, 2, x.toNatClampNeg, m, r, d, bg, rd) = none := p_run_n (by rw [eo2]; exact st_ox h4)
              rw [er]
              refine rt_110b L b h h2 _ hF j2 _ x u21 ?_
              rcases (show u = 0 ∨ u = 1 ∨ u = 2 ∨ u = 3 ∨ u = 5 by omega) with rfl | rfl | rfl | rfl | rfl
              · rw [u0 rfl]; rfl
              · rw [(u1 rfl).1]; rfl
              · rw [(u2 rfl).1]; rfl
              · rw [(u3 rfl).1, (u3 rfl).2]; rfl
              · rw [(u5 rfl).1, (u5 rfl).2]; rfl
      · obtain ⟨e19, e20⟩ := t3 rfl
        have es : p_stp (p_tok T n p) w 0 m r d bg rd = some (.inr (e, 1, 0, p_mn m, p_ad r m 0, d, bg, rd)) := by rw [eo]; exact st_3 hw2
        have g := PI.stp hp hI es
        rw [p_run_r es]
        exact rt_3 L b h h1 T n m r d bg rd hn hJ e1 eT hR i2 i3 i5 e he.1 e17 e21 _ _ e19 e20 (fun h2 j2 f1 f2 f3 f4 => ih k' (by omega) e 1 _ _ d bg rd h2 (by omega) he.1 (by omega) g.1 j2 f1 f2 f3 f4)
      · obtain ⟨e19, e20⟩ := t4 rfl
        have er : p_run T n (k' + 1) (p, w, 0, m, r, d, bg, rd) = none := p_run_n (by rw [eo]; exact st_4z hw2)
        rw [er]
        exact rt_4z L b h h1 _ hF hJ e21 _ e19 e20
      · obtain ⟨e19, e20⟩ := t5 rfl
        by_cases hc : w = 1 ∧ 0 < d
        · obtain ⟨rfl, hd⟩ := hc
          by_cases hl : 24 < m ∨ 24 < p_all m (bg (d - 1)) (rd (d - 1))
          · have es : p_stp (p_tok T n p) 1 0 m r d bg rd = some (.inr (e, 1, 0, 25, r, d - 1, bg, rd)) := by rw [eo]; exact st_5b hd hl
            have g := PI.stp hp hI es
            rw [p_run_r es]
            exact rt_5 L b h h1 T n m r d bg rd hn hJ e1 eT hR i2 i3 i5 e he.1 e17 e21 _ e19 e20 hd 25 r (Or.inl ⟨hl, rfl⟩) (fun h2 j2 f1 f2 f3 f4 => ih k' (by omega) e 1 _ _ (d - 1) bg rd h2 (by omega) he.1 (by omega) g.1 j2 f1 f2 f3 f4)
          · have es : p_stp (p_tok T n p) 1 0 m r d bg rd = some (.inr (e, 1, 0, p_all m (bg (d - 1)) (rd (d - 1)), p_cp (m - bg (d - 1)) (p_all m (bg (d - 1)) (rd (d - 1)) - m) m r, d - 1, bg, rd)) := by rw [eo]; exact st_5 hd hl
            have g := PI.stp hp hI es
            rw [p_run_r es]
            exact rt_5 L b h h1 T n m r d bg rd hn hJ e1 eT hR i2 i3 i5 e he.1 e17 e21 _ e19 e20 hd _ _ (Or.inr ⟨hl, rfl, rfl⟩) (fun h2 j2 f1 f2 f3 f4 => ih k' (by omega) e 1 _ _ (d - 1) bg rd h2 (by omega) he.1 (by omega) g.1 j2 f1 f2 f3 f4)
        · have er : p_run T n (k' + 1) (p, w, 0, m, r, d, bg, rd) = none := p_run_n (by rw [eo]; exact st_5z hw2 hc)
          rw [er]
          by_cases hw0 : w = 0
          · subst hw0
            exact rt_5w L b h h1 _ hF hJ e21 e19 e20
          · exact rt_5d L b h h1 _ hF hJ e21 _ (by rw [hR.1, show d = 0 by omega]; rfl) e19 e20

set_option maxRecDepth 100000 in
set_option maxHeartbeats 4000000 in
theorem w_readTuneM (L : Nat) (b : Bool) (h : Hp) (hB : Bx h) (T : Nat → Int32) (n : Nat) (r0 : Nat → Int32) (hn : n ≤ 160) (e1 : h 63 16 = nI n) (eT : ∀ j, h 72 j = T j) (ht : MTK (p_tok T n 0) h) : EvK mi_X10_readTune [.ref 63] (G0 L b) h (RTP (p_run T n (n + 1) (0, 0, 0, 0, r0, 0, (fun _ => 0), (fun _ => 0)))) [(63, 17), (63, 18), (63, 19), (63, 20), (63, 21), (63, 22), (63, 27), (63, 28), (63, 31), (75, 999), (76, 999), (77, 999)] := by
  refine EvM.of2 (lo := [some (.ref 63), none, none, none]) pf_X10_readTune ok_X10_readTune rfl rfl ?_
  refine ev_iconst (v := 1) rfl rfl (by decide) ?_
  refine ev_istore_n rfl rfl rfl rfl ?_
  dsimp only [List.set]
  refine ev_aload_n rfl rfl rfl ?_
  refine ev_iconst (v := 0) rfl rfl (by decide) ?_
  refine ev_putI rfl rfl fl_X10_241 rfl rfl rfl rfl rfl ?_
  refine ev_aload_n rfl rfl rfl ?_
  refine ev_iconst (v := 0) rfl rfl (by decide) ?_
  refine ev_putI rfl rfl fl_X10_234 rfl rfl rfl rfl rfl ?_
  refine ev_aload_n rfl rfl rfl ?_
  refine ev_iconst (v := 0) rfl rfl (by decide) ?_
  refine ev_putZ rfl rfl fl_X10_237 rfl rfl rfl rfl rfl (by decide) ?_
  refine ev_iconst (v := 1) rfl rfl (by decide) ?_
  refine ev_istore_n rfl rfl rfl rfl ?_
  dsimp only [List.set]
  have ht2 : MTK (p_tok T n 0) (ev_set (ev_set (ev_set h 63 31 0) 63 27 0) 63 28 0) := by
    cases eo : p_tok T n 0 with
    | none => rw [eo] at ht; show ¬ _ = _; simp (disch := decide) only [ev_rd1, ev_rd2, ev_rd3]; exact ht
    | some y =>
      obtain ⟨t, x, e⟩ := y
      rw [eo] at ht
      obtain ⟨e21, e17, t0, t1, t2, t3, t4, t5⟩ := ht
      refine ⟨?_, ?_, fun z => ?_, fun z => ⟨?_, ?_⟩, fun z => ⟨?_, ?_⟩, fun z => ⟨?_, ?_⟩, fun z => ⟨?_, ?_⟩, fun z => ⟨?_, ?_⟩⟩ <;> simp (disch := decide) only [ev_rd1, ev_rd2, ev_rd3]
      · exact e21
      · exact e17
      · exact t0 z
      · exact (t1 z).1
      · exact (t1 z).2
      · exact (t2 z).1
      · exact (t2 z).2
      · exact (t3 z).1
      · exact (t3 z).2
      · exact (t4 z).1
      · exact (t4 z).2
      · exact (t5 z).1
      · exact (t5 z).2
  exact l_rt L b h T n hn (n + 1) 0 0 0 r0 0 (fun _ => 0) (fun _ => 0) _ (by omega) (by omega) (by omega) ⟨by omega, by omega, by omega, fun z => absurd z (by decide), fun i hi => absurd hi (by omega)⟩ ((((JW.refl hB).set rfl (by decide)).set rfl (by decide)).set rfl (B.any _)) (by simp (disch := decide) only [ev_rd1, ev_rd2, ev_rd3]; exact e1) (fun j => by simp (disch := decide) only [ev_rd1, ev_rd2, ev_rd3]; exact eT j) ht2 ⟨by simp (disch := decide) only [ev_rd1, ev_rd2, ev_rd3]; rfl, fun i hi => absurd hi (by omega), 0, by simp (disch := decide) only [ev_rd1, ev_rd2, ev_rd3]; rfl, by omega, fun i hi => absurd hi (by omega), fun _ => ⟨rfl, by simp (disch := decide) only [ev_rd1, ev_rd2, ev_rd3], fun i hi => absurd hi (by omega)⟩, fun z => absurd z (by decide)⟩

