theorem st_1 {w v m d e : Nat} {x : Int32} {r : Nat → Int32} {bg rd : Nat → Nat} (hw : ¬ w = 2) : p_stp (some (1, x, e)) w v m r d bg rd = some (.inr (e, 1, 0, p_mn m, p_ad r m x, d, bg, rd)) := by
  unfold p_stp
  dsimp only
  rw [if_neg hw, if_pos rfl]

theorem st_3 {w v m d e : Nat} {x : Int32} {r : Nat → Int32} {bg rd : Nat → Nat} (hw : ¬ w = 2) : p_stp (some (3, x, e)) w v m r d bg rd = some (.inr (e, 1, 0, p_mn m, p_ad r m 0, d, bg, rd)) := by
  unfold p_stp
  dsimp only
  rw [if_neg hw, if_neg (by decide), if_pos rfl]

theorem st_2z {w v m d e : Nat} {x : Int32} {r : Nat → Int32} {bg rd : Nat → Nat} (hw : ¬ w = 2) (hz : z_wi x 1 20 = 0) : p_stp (some (2, x, e)) w v m r d bg rd = none := by
  unfold p_stp
  dsimp only
  rw [if_neg hw, if_neg (by decide), if_neg (by decide), if_pos rfl, if_pos hz]

theorem st_2 {w v m d e : Nat} {x : Int32} {r : Nat → Int32} {bg rd : Nat → Nat} (hw : ¬ w = 2) (hz : ¬ z_wi x 1 20 = 0) : p_stp (some (2, x, e)) w v m r d bg rd = some (.inr (e, 2, x.toNatClampNeg, m, r, d, bg, rd)) := by
  unfold p_stp
  dsimp only
  rw [if_neg hw, if_neg (by decide), if_neg (by decide), if_pos rfl, if_neg hz]

theorem st_5z {w v m d e : Nat} {x : Int32} {r : Nat → Int32} {bg rd : Nat → Nat} (hw : ¬ w = 2) (hc : ¬ (w = 1 ∧ 0 < d)) : p_stp (some (5, x, e)) w v m r d bg rd = none := by
  unfold p_stp
  dsimp only
  rw [if_neg hw, if_neg (by decide), if_neg (by decide), if_neg (by decide), if_pos rfl, if_neg hc]

theorem st_5b {v m d e : Nat} {x : Int32} {r : Nat → Int32} {bg rd : Nat → Nat} (hd : 0 < d) (hl : 24 < m ∨ 24 < p_all m (bg (d - 1)) (rd (d - 1))) : p_stp (some (5, x, e)) 1 v m r d bg rd = some (.inr (e, 1, 0, 25, r, d - 1, bg, rd)) := by
  unfold p_stp
  dsimp only
  rw [if_neg (by decide), if_neg (by decide), if_neg (by decide), if_neg (by decide), if_pos rfl, if_pos ⟨rfl, hd⟩, if_pos hl]

theorem st_5 {v m d e : Nat} {x : Int32} {r : Nat → Int32} {bg rd : Nat → Nat} (hd : 0 < d) (hl : ¬ (24 < m ∨ 24 < p_all m (bg (d - 1)) (rd (d - 1)))) : p_stp (some (5, x, e)) 1 v m r d bg rd = some (.inr (e, 1, 0, p_all m (bg (d - 1)) (rd (d - 1)), p_cp (m - bg (d - 1)) (p_all m (bg (d - 1)) (rd (d - 1)) - m) m r, d - 1, bg, rd)) := by
  unfold p_stp
  dsimp only
  rw [if_neg (by decide), if_neg (by decide), if_neg (by decide), if_neg (by decide), if_pos rfl, if_pos ⟨rfl, hd⟩, if_neg hl]

theorem st_0z {w v m d e : Nat} {x : Int32} {r : Nat → Int32} {bg rd : Nat → Nat} (hw : ¬ w = 2) (hc : ¬ (w = 1 ∧ d = 0)) : p_stp (some (0, x, e)) w v m r d bg rd = none := by
  unfold p_stp
  dsimp only
  rw [if_neg hw, if_neg (by decide), if_neg (by decide), if_neg (by decide), if_neg (by decide), if_pos rfl, if_neg hc]

theorem st_0b {v m d e : Nat} {x : Int32} {r : Nat → Int32} {bg rd : Nat → Nat} (hd : d = 0) (hm : ¬ m ≤ 24) : p_stp (some (0, x, e)) 1 v m r d bg rd = none := by
  unfold p_stp
  dsimp only
  rw [if_neg (by decide), if_neg (by decide), if_neg (by decide), if_neg (by decide), if_neg (by decide), if_pos rfl, if_pos ⟨rfl, hd⟩, if_neg hm]

theorem st_0 {v m d e : Nat} {x : Int32} {r : Nat → Int32} {bg rd : Nat → Nat} (hd : d = 0) (hm : m ≤ 24) : p_stp (some (0, x, e)) 1 v m r d bg rd = some (.inl (m, r)) := by
  unfold p_stp
  dsimp only
  rw [if_neg (by decide), if_neg (by decide), if_neg (by decide), if_neg (by decide), if_neg (by decide), if_pos rfl, if_pos ⟨rfl, hd⟩, if_pos hm]

theorem st_4z {w v m d e : Nat} {x : Int32} {r : Nat → Int32} {bg rd : Nat → Nat} (hw : ¬ w = 2) : p_stp (some (4, x, e)) w v m r d bg rd = none := by
  unfold p_stp
  dsimp only
  rw [if_neg hw, if_neg (by decide), if_neg (by decide), if_neg (by decide), if_neg (by decide), if_neg (by decide)]

theorem st_o {v m d e : Nat} {x : Int32} {r : Nat → Int32} {bg rd : Nat → Nat} (hd : d < 4) : p_stp (some (4, x, e)) 2 v m r d bg rd = some (.inr (e, 0, 0, m, r, d + 1, p_un bg d m, p_un rd d v)) := by
  unfold p_stp
  dsimp only
  rw [if_pos rfl, if_pos rfl, if_pos hd]

theorem st_oz {v m d e : Nat} {x : Int32} {r : Nat → Int32} {bg rd : Nat → Nat} (hd : ¬ d < 4) : p_stp (some (4, x, e)) 2 v m r d bg rd = none := by
  unfold p_stp
  dsimp only
  rw [if_pos rfl, if_pos rfl, if_neg hd]

theorem st_ox {v m d e t : Nat} {x : Int32} {r : Nat → Int32} {bg rd : Nat → Nat} (ht : ¬ t = 4) : p_stp (some (t, x, e)) 2 v m r d bg rd = none := by
  unfold p_stp
  dsimp only
  rw [if_pos rfl, if_neg ht]

def MR (m : Nat) (r : Nat → Int32) (d : Nat) (bg rd : Nat → Nat) (z : Hp) : Prop := z 63 31 = nI d ∧ (∀ i, i < d → z 77 i = nI (rd i)) ∧ ∃ q : Nat, z 63 27 = nI q ∧ q ≤ 60 ∧ (∀ i, i < d → ∃ a : Nat, z 76 i = nI a ∧ a ≤ q ∧ (m ≤ 24 → a = bg i)) ∧ (m ≤ 24 → q = m ∧ z 63 28 = 0 ∧ ∀ i, i < m → z 75 i = r i) ∧ (24 < m → (¬ z 63 28 = 0 ∨ 24 < q))
theorem MR.call {W : List (Nat × Nat)} {m d : Nat} {r : Nat → Int32} {bg rd : Nat → Nat} {h h1 : Hp} (hR : MR m r d bg rd h) (hJ : JW W h h1) (w1 : wm W 63 31 = false) (w2 : wm W 63 27 = false) (w3 : wm W 63 28 = false) (w4 : ∀ j, wm W 75 j = false) (w5 : ∀ j, wm W 76 j = false) (w6 : ∀ j, wm W 77 j = false) : MR m r d bg rd h1 := by
  obtain ⟨a1, a2, q, a3, a4, a5, a6, a7⟩ := hR
  refine ⟨(hJ.2 63 31 w1).trans a1, fun i hi => (hJ.2 77 i (w6 i)).trans (a2 i hi), q, (hJ.2 63 27 w2).trans a3, a4, fun i hi => ?_, fun z => ?_, fun z => ?_⟩
  · obtain ⟨a, b1, b2⟩ := a5 i hi
    exact ⟨a, (hJ.2 76 i (w5 i)).trans b1, b2⟩
  · obtain ⟨b1, b2, b3⟩ := a6 z
    exact ⟨b1, (hJ.2 63 28 w3).trans b2, fun i hi => (hJ.2 75 i (w4 i)).trans (b3 i hi)⟩
  · rcases a7 z with b1 | b1
    · exact Or.inl (by rw [hJ.2 63 28 w3]; exact b1)
    · exact Or.inr b1
def k_br (h : Hp) (q : Nat) (c : Int32) : Hp := if q < 60 then ev_set (ev_set h 75 q c) 63 27 (nI (q + 1)) else ev_set h 63 28 1

set_option maxRecDepth 100000 in
set_option maxHeartbeats 4000000 in
theorem c_beatRead (L : Nat) (b : Bool) (h : Hp) (q : Nat) (hq : q ≤ 60) (eq : h 63 27 = nI q) (c : Int32) : EvU mi_X10_beatRead [.ref 63, .int c] (G0 L b) h (k_br h q c) := by
  refine EvU.of (lo := [some (.ref 63), some (.int c)]) pf_X10_beatRead ok_X10_beatRead rfl rfl ?_
  refine ev_aload_n rfl rfl rfl ?_
  refine ev_getI rfl rfl fl_X10_234 rfl rfl rfl ?_
  try simp (disch := decide) only [ev_rd2, eq]
  refine ev_bipush (v := 60) rfl rfl (by decide) ?_
  refine ev_icmp_lt rfl rfl (fun c_6 => ?_) (fun c_6 => ?_)
  · refine ev_aload_n rfl rfl rfl ?_
    refine ev_getR rfl rfl fl_X10_57 rfl rfl rfl rfl ?_
    refine ev_aload_n rfl rfl rfl ?_
    refine ev_getI rfl rfl fl_X10_234 rfl rfl rfl ?_
    try simp (disch := decide) only [ev_rd2, eq]
    refine ev_iload_n rfl rfl rfl ?_
    refine ev_iast rfl rfl rfl rfl (vp_in_nI (by have := (nI_lt2 (a := q) (b := 60) (by omega) (by decide)).mp c_6; omega) (by decide)) (nI_clamp (by omega)) ?_
    refine ev_aload_n rfl rfl rfl ?_
    refine ev_dup rfl rfl rfl ?_
    refine ev_getI rfl rfl fl_X10_234 rfl rfl rfl ?_
    try simp (disch := decide) only [ev_rd2, eq]
    refine ev_iconst (v := 1) rfl rfl (by decide) ?_
    refine ev_iadd rfl rfl ?_
    refine ev_putI rfl rfl fl_X10_234 rfl rfl rfl rfl rfl ?_
    rw [nI_1 q]
    exact ev_vret rfl rfl trivial (⟨rfl, rfl, by unfold k_br; rw [if_pos ((nI_lt2 (a := q) (b := 60) (by omega) (by decide)).mp c_6)]⟩)
  · refine ev_aload_n rfl rfl rfl ?_
    refine ev_iconst (v := 1) rfl rfl (by decide) ?_
    refine ev_putZ rfl rfl fl_X10_237 rfl rfl rfl rfl rfl (by decide) ?_
    refine ev_goto rfl rfl ?_
    exact ev_vret rfl rfl trivial (⟨rfl, rfl, by unfold k_br; rw [if_neg (fun z_ => c_6 ((nI_lt2 (a := q) (b := 60) (by omega) (by decide)).mpr z_))]⟩)

theorem jw_br {h0 h : Hp} (hJ : JW [(63, 17), (63, 18), (63, 19), (63, 20), (63, 21), (63, 22), (63, 27), (63, 28), (63, 31), (75, 999), (76, 999), (77, 999)] h0 h) {q : Nat} {c : Int32} (hc : B c 0 4095) : JW [(63, 17), (63, 18), (63, 19), (63, 20), (63, 21), (63, 22), (63, 27), (63, 28), (63, 31), (75, 999), (76, 999), (77, 999)] h0 (k_br h q c) := by
  unfold k_br
  split
  · exact (hJ.set rfl hc).set rfl (nI_60 (by omega))
  · exact hJ.set rfl (B.any _)
theorem k_br_ne {h : Hp} {q i j : Nat} {c : Int32} (h1 : i ≠ 75) (h2 : ¬ (i = 63 ∧ (j = 27 ∨ j = 28))) : k_br h q c i j = h i j := by
  unfold k_br
  split
  · unfold ev_set
    rw [if_neg (fun z => h2 ⟨z.1, Or.inl z.2⟩), if_neg (fun z => h1 z.1)]
  · unfold ev_set
    rw [if_neg (fun z => h2 ⟨z.1, Or.inr z.2⟩)]
theorem mr_beat {m d : Nat} {r : Nat → Int32} {bg rd : Nat → Nat} {h : Hp} (c : Int32) (hm : m ≤ 25) (hR : MR m r d bg rd h) {q : Nat} (eq : h 63 27 = nI q) (hq : q ≤ 60) (hb : ∀ i, i < d → bg i ≤ m) : MR (p_mn m) (p_ad r m c) d bg rd (k_br h q c) := by
  obtain ⟨a1, a2, q', a3, a4, a5, a6, a7⟩ := hR
  have e : q' = q := (nI_eq (by omega) (by omega)).mp (a3.symm.trans eq)
  subst e
  refine ⟨by rw [k_br_ne (by decide) (by decide)]; exact a1, fun i hi => by rw [k_br_ne (by decide) (fun z => absurd z.1 (by decide))]; exact a2 i hi, ?_⟩
  by_cases q6 : q' < 60
  · have e27 : k_br h q' c 63 27 = nI (q' + 1) := by unfold k_br; rw [if_pos q6]; exact ev_rd1 _ _ _ _
    have e28 : k_br h q' c 63 28 = h 63 28 := by unfold k_br; rw [if_pos q6, ev_rd3 (by decide), ev_rd2 (by decide)]
    have e75 : ∀ j, k_br h q' c 75 j = if j = q' then c else h 75 j := fun j => by unfold k_br; rw [if_pos q6, ev_rd2 (by decide), ev_sj]
    refine ⟨q' + 1, e27, by omega, fun i hi => ?_, fun z => ?_, fun z => ?_⟩
    · obtain ⟨a, b1, b2, b3⟩ := a5 i hi
      refine ⟨a, by rw [k_br_ne (by decide) (fun z => absurd z.1 (by decide))]; exact b1, by omega, fun z => b3 ?_⟩
      unfold p_mn at z
      split at z <;> omega
    · unfold p_mn at z ⊢
      split at z
      · rename_i m25
        obtain ⟨b1, b2, b3⟩ := a6 (by omega)
        rw [if_pos m25]
        refine ⟨by omega, by rw [e28]; exact b2, fun i hi => ?_⟩
        rw [e75]
        unfold p_ad
        rw [if_pos (show m < 24 by omega)]
        unfold p_up
        by_cases w : i = m
        · rw [if_pos (by omega), if_pos w]
        · rw [if_neg (by omega), if_neg w]
          exact b3 i (by omega)
      · omega
    · rw [e28]
      by_cases m24 : m ≤ 24
      · have := (a6 m24).1
        unfold p_mn at z
        split at z
        · exact Or.inr (by omega)
        · omega
      · rcases a7 (by omega) with b1 | b1
        · exact Or.inl b1
        · exact Or.inr (by omega)
  · have e27 : k_br h q' c 63 27 = nI q' := by unfold k_br; rw [if_neg q6, ev_rd3 (by decide)]; exact a3
    have e28 : k_br h q' c 63 28 = 1 := by unfold k_br; rw [if_neg q6]; exact ev_rd1 _ _ _ _
    have m25 : ¬ m ≤ 24 := fun z => by have := (a6 z).1; omega
    refine ⟨q', e27, a4, fun i hi => ?_, fun z => ?_, fun _ => Or.inl (by rw [e28]; decide)⟩
    · obtain ⟨a, b1, b2, b3⟩ := a5 i hi
      refine ⟨a, by rw [k_br_ne (by decide) (fun z => absurd z.1 (by decide))]; exact b1, b2, fun z => b3 ?_⟩
      unfold p_mn at z
      split at z <;> omega
    · unfold p_mn at z
      split at z <;> omega

def h_rdr (h : Hp) (r : Nat → Int32) : Hp := fun i j => if i = 75 then r j else h i j
theorem h_rdr_ne {h : Hp} {r : Nat → Int32} {i j : Nat} (hi : i ≠ 75) : h_rdr h r i j = h i j := if_neg hi
theorem h_rdr_75 (h : Hp) (r : Nat → Int32) (j : Nat) : h_rdr h r 75 j = r j := if_pos rfl
theorem h_rdr_id (h : Hp) : h_rdr h (h 75) = h := by
  funext i j
  unfold h_rdr
  by_cases e : i = 75
  · rw [if_pos e, e]
  · rw [if_neg e]
theorem h_rdr_set (h : Hp) (r : Nat → Int32) (i : Nat) (x : Int32) : ev_set (h_rdr h r) 75 i x = h_rdr h (p_up r i x) := by
  funext a j
  unfold ev_set h_rdr p_up
  by_cases e : a = 75
  · subst e
    by_cases e2 : j = i
    · rw [if_pos ⟨rfl, e2⟩, if_pos rfl, if_pos e2]
    · rw [if_neg (fun z => e2 z.2), if_pos rfl, if_pos rfl, if_neg e2]
  · rw [if_neg (fun z => e z.1), if_neg e, if_neg e]
theorem JW.rdr {W : List (Nat × Nat)} {h0 h : Hp} {r : Nat → Int32} (hJ : JW W h0 h) (hb : ∀ j, B (r j) 0 4095) (hw : ∀ j, wm W 75 j = true) : JW W h0 (h_rdr h r) := by
  refine ⟨fun i j => ?_, fun i j q => ?_⟩
  · unfold h_rdr
    split
    · rename_i e; rw [e]; exact hb j
    · exact hJ.1 i j
  · unfold h_rdr
    rw [if_neg (fun e => by rw [e, hw j] at q; cases q)]
    exact hJ.2 i j q

set_option maxRecDepth 100000 in
set_option maxHeartbeats 4000000 in
theorem l_clo (L : Nat) (b : Bool) (h : Hp) (a o x d : Nat) (hd : d < 4) (ed : h 63 31 = nI d) (ex : h 77 d = nI x) (hx : x ≤ 20) (ho : a + o * x ≤ 24) (ho2 : o * x < 2 ^ 31) : ∀ (t k : Nat) (r : Nat → Int32), k + t = o * x → o ≤ k → EvQ mi_X10_closes 55 [some (.ref 63), some (.int (nI a)), some (.int (nI o)), some (.int (nI k))] [] (G0 L b) (h_rdr h r) 0 0 (fun v G' h' => v = none ∧ G' = G0 L b ∧ h' = ev_set (h_rdr h (p_cp o t (a + k) r)) 63 27 (nI (a + o * x))) := by
  intro t
  induction t with
  | zero =>
    intro k r hk hok
    have hk2 : k = o * x := by omega
    subst hk2
    refine ev_iload_n rfl rfl rfl ?_
    refine ev_iload_n rfl rfl rfl ?_
    refine ev_aload_n rfl rfl rfl ?_
    refine ev_getR rfl rfl fl_X10_63 rfl rfl rfl rfl ?_
    refine ev_aload_n rfl rfl rfl ?_
    refine ev_getI rfl rfl fl_X10_241 rfl rfl rfl ?_
    try simp (disch := decide) only [h_rdr_ne, h_rdr_75, ed, ex]
    refine ev_iald rfl rfl rfl (vp_in_nI (by omega) (by decide)) (nI_clamp (by omega)) ?_
    try simp (disch := decide) only [h_rdr_ne, h_rdr_75, ed, ex]
    refine ev_imul rfl rfl ?_
    rw [nI_mul]
    refine ev_icmp_ge rfl rfl (fun c_67 => ?_) (fun z_ => absurd (Int32.le_refl _) z_)
    refine ev_aload_n rfl rfl rfl ?_
    refine ev_iload_n rfl rfl rfl ?_
    refine ev_iload_n rfl rfl rfl ?_
    refine ev_aload_n rfl rfl rfl ?_
    refine ev_getR rfl rfl fl_X10_63 rfl rfl rfl rfl ?_
    refine ev_aload_n rfl rfl rfl ?_
    refine ev_getI rfl rfl fl_X10_241 rfl rfl rfl ?_
    try simp (disch := decide) only [h_rdr_ne, h_rdr_75, ed, ex]
    refine ev_iald rfl rfl rfl (vp_in_nI (by omega) (by decide)) (nI_clamp (by omega)) ?_
    try simp (disch := decide) only [h_rdr_ne, h_rdr_75, ed, ex]
    refine ev_imul rfl rfl ?_
    rw [nI_mul]
    refine ev_iadd rfl rfl ?_
    rw [nI_add]
    refine ev_putI rfl rfl fl_X10_234 rfl rfl rfl rfl rfl ?_
    exact ev_vret rfl rfl trivial (⟨rfl, rfl, rfl⟩)
  | succ t ih =>
    intro k r hk hok
    refine ev_iload_n rfl rfl rfl ?_
    refine ev_iload_n rfl rfl rfl ?_
    refine ev_aload_n rfl rfl rfl ?_
    refine ev_getR rfl rfl fl_X10_63 rfl rfl rfl rfl ?_
    refine ev_aload_n rfl rfl rfl ?_
    refine ev_getI rfl rfl fl_X10_241 rfl rfl rfl ?_
    try simp (disch := decide) only [h_rdr_ne, h_rdr_75, ed, ex]
    refine ev_iald rfl rfl rfl (vp_in_nI (by omega) (by decide)) (nI_clamp (by omega)) ?_
    try simp (disch := decide) only [h_rdr_ne, h_rdr_75, ed, ex]
    refine ev_imul rfl rfl ?_
    rw [nI_mul]
    refine ev_icmp_ge rfl rfl (fun z_ => absurd z_ (fun z_ => absurd ((nI_le2 (by omega) (by omega)).mp z_) (by omega))) (fun c_67 => ?_)
    refine ev_aload_n rfl rfl rfl ?_
    refine ev_getR rfl rfl fl_X10_57 rfl rfl rfl rfl ?_
    refine ev_iload_n rfl rfl rfl ?_
    refine ev_iload_n rfl rfl rfl ?_
    refine ev_iadd rfl rfl ?_
    rw [nI_add]
    refine ev_aload_n rfl rfl rfl ?_
    refine ev_getR rfl rfl fl_X10_57 rfl rfl rfl rfl ?_
    refine ev_iload_n rfl rfl rfl ?_
    refine ev_iload_n rfl rfl rfl ?_
    refine ev_iadd rfl rfl ?_
    rw [nI_add]
    refine ev_iload_n rfl rfl rfl ?_
    refine ev_isub rfl rfl ?_
    rw [nI_sub2 (show o ≤ a + k by omega) (show a + k < 2 ^ 31 by omega)]
    refine ev_iald rfl rfl rfl (vp_in_nI (by omega) (by decide)) (nI_clamp (by omega)) ?_
    try simp (disch := decide) only [h_rdr_ne, h_rdr_75, ed, ex]
    refine ev_iast rfl rfl rfl rfl (vp_in_nI (by omega) (by decide)) (nI_clamp (by omega)) ?_
    refine ev_iinc (y := 1) rfl rfl rfl (by decide) rfl rfl ?_
    dsimp only [List.set]
    refine ev_goto rfl rfl ?_
    rw [nI_1 k, h_rdr_set]
    have z_ := ih (k + 1) (p_up r (a + k) (r (a + k - o))) (by omega) (by omega)
    exact z_

def k_clo (h : Hp) (q d a x : Nat) : Hp := if 24 < p_all q a x then ev_set (ev_set h 63 31 (nI (d - 1))) 63 28 1 else ev_set (h_rdr (ev_set h 63 31 (nI (d - 1))) (p_cp (q - a) (p_all q a x - q) q (h 75))) 63 27 (nI (p_all q a x))
theorem p_all_le2 {q a x : Nat} (ha : a ≤ q) (hq : q ≤ 60) (hx : x ≤ 20) : p_all q a x ≤ 1300 ∧ (q - a) * x ≤ 1300 := by
  unfold p_all
  have h1 : (q - a) * x ≤ (q - a) * 20 := Nat.mul_le_mul_left _ hx
  omega

set_option maxRecDepth 100000 in
set_option maxHeartbeats 4000000 in
theorem c_closes (L : Nat) (b : Bool) (h : Hp) (q : Nat) (hq : q ≤ 60) (eq : h 63 27 = nI q) (d : Nat) (hd : 0 < d) (hd4 : d ≤ 4) (ed : h 63 31 = nI d) (a x : Nat) (ha : a ≤ q) (hx1 : 1 ≤ x) (hx : x ≤ 20) (ea : h 76 (d - 1) = nI a) (ex : h 77 (d - 1) = nI x)  : EvU mi_X10_closes [.ref 63] (G0 L b) h (k_clo h q d a x) := by
  have hal := p_all_le2 ha hq hx
  have hag := p_all_ge ha hx1
  refine EvU.of (lo := [some (.ref 63), none, none, none]) pf_X10_closes ok_X10_closes rfl rfl ?_
  refine ev_aload_n rfl rfl rfl ?_
  refine ev_dup rfl rfl rfl ?_
  refine ev_getI rfl rfl fl_X10_241 rfl rfl rfl ?_
  try simp (disch := decide) only [ev_rd1, ev_rd2, ev_rd3, eq, ed, ea, ex]
  refine ev_iconst (v := 1) rfl rfl (by decide) ?_
  refine ev_isub rfl rfl ?_
  rw [show nI d - 1 = nI (d - 1) from nI_sub2 (b := 1) (by omega) (by omega)]
  refine ev_putI rfl rfl fl_X10_241 rfl rfl rfl rfl rfl ?_
  refine ev_aload_n rfl rfl rfl ?_
  refine ev_getR rfl rfl fl_X10_60 rfl rfl rfl rfl ?_
  refine ev_aload_n rfl rfl rfl ?_
  refine ev_getI rfl rfl fl_X10_241 rfl rfl rfl ?_
  try simp (disch := decide) only [ev_rd1, ev_rd2, ev_rd3, eq, ed, ea, ex]
  refine ev_iald rfl rfl rfl (vp_in_nI (by omega) (by decide)) (nI_clamp (by omega)) ?_
  try simp (disch := decide) only [ev_rd1, ev_rd2, ev_rd3, eq, ed, ea, ex]
  refine ev_istore_n rfl rfl rfl rfl ?_
  dsimp only [List.set]
  refine ev_aload_n rfl rfl rfl ?_
  refine ev_getI rfl rfl fl_X10_234 rfl rfl rfl ?_
  try simp (disch := decide) only [ev_rd1, ev_rd2, ev_rd3, eq, ed, ea, ex]
  refine ev_iload_n rfl rfl rfl ?_
  refine ev_isub rfl rfl ?_
  rw [nI_sub2 ha (by omega)]
  refine ev_istore_n rfl rfl rfl rfl ?_
  dsimp only [List.set]
  refine ev_iload_n rfl rfl rfl ?_
  refine ev_aload_n rfl rfl rfl ?_
  refine ev_getR rfl rfl fl_X10_63 rfl rfl rfl rfl ?_
  refine ev_aload_n rfl rfl rfl ?_
  refine ev_getI rfl rfl fl_X10_241 rfl rfl rfl ?_
  try simp (disch := decide) only [ev_rd1, ev_rd2, ev_rd3, eq, ed, ea, ex]
  refine ev_iald rfl rfl rfl (vp_in_nI (by omega) (by decide)) (nI_clamp (by omega)) ?_
  try simp (disch := decide) only [ev_rd1, ev_rd2, ev_rd3, eq, ed, ea, ex]
  refine ev_imul rfl rfl ?_
  refine ev_iload_n rfl rfl rfl ?_
  refine ev_iadd rfl rfl ?_
  rw [nI_mul, nI_add, show (q - a) * x + a = p_all q a x from Nat.add_comm _ _]
  refine ev_bipush (v := 24) rfl rfl (by decide) ?_
  refine ev_icmp_le rfl rfl (fun c_42 => ?_) (fun c_42 => ?_)
  · refine ev_iload_n rfl rfl rfl ?_
    refine ev_istore_n rfl rfl rfl rfl ?_
    dsimp only [List.set]
    have h24 : p_all q a x ≤ 24 := (nI_le2 (a := p_all q a x) (b := 24) (by omega) (by decide)).mp c_42
    have ep : a + (q - a) * x = p_all q a x := rfl
    have ge : q - a ≤ (q - a) * x := Nat.le_mul_of_pos_right _ (by omega)
    have z_ := l_clo L b (ev_set h 63 31 (nI (d - 1))) a (q - a) x (d - 1) (by omega) (by simp (disch := decide) only [ev_rd1, ev_rd2, ev_rd3]) (by simp (disch := decide) only [ev_rd1, ev_rd2, ev_rd3]; exact ex) hx (by omega) (by omega) ((q - a) * x - (q - a)) (q - a) (ev_set h 63 31 (nI (d - 1)) 75) (by omega) (Nat.le_refl _)
    rw [h_rdr_id, show a + (q - a) = q by omega, show (q - a) * x - (q - a) = p_all q a x - q by omega] at z_
    unfold k_clo
    rw [if_neg (by omega)]
    exact z_
  · refine ev_aload_n rfl rfl rfl ?_
    refine ev_iconst (v := 1) rfl rfl (by decide) ?_
    refine ev_putZ rfl rfl fl_X10_237 rfl rfl rfl rfl rfl (by decide) ?_
    refine ev_goto rfl rfl ?_
    exact ev_vret rfl rfl trivial (⟨rfl, rfl, by unfold k_clo; rw [if_pos (nI_xle (b := 24) c_42 (by omega) (by decide))]⟩)

theorem p_cp_cg (o : Nat) (ho : 1 ≤ o) : ∀ t i (r s : Nat → Int32), o ≤ i → (∀ j, j < i → r j = s j) → ∀ j, j < i + t → p_cp o t i r j = p_cp o t i s j
  | 0, i, r, s, _, h, j, hj => h j (by omega)
  | t + 1, i, r, s, hi, h, j, hj => by
    unfold p_cp
    refine p_cp_cg o ho t (i + 1) _ _ (by omega) (fun j hj => ?_) j (by omega)
    unfold p_up
    by_cases q : j = i
    · rw [if_pos q, if_pos q]; exact h _ (by omega)
    · rw [if_neg q, if_neg q]; exact h j (by omega)
theorem mr_clo {m d : Nat} {r : Nat → Int32} {bg rd : Nat → Nat} {h : Hp} (hR : MR m r d bg rd h) {q a x : Nat} (hd : 0 < d) (hd4 : d ≤ 4) (eq : h 63 27 = nI q) (hq : q ≤ 60) (ea : h 76 (d - 1) = nI a) (hx : x = rd (d - 1)) (hx1 : 1 ≤ x) (hx2 : x ≤ 20) (ha : a ≤ q) (hm : m ≤ 25) (hb : ∀ i, i < d → bg i ≤ m) {m' : Nat} {r' : Nat → Int32} (hs : (24 < m ∨ 24 < p_all m (bg (d - 1)) x) ∧ m' = 25 ∨ ¬ (24 < m ∨ 24 < p_all m (bg (d - 1)) x) ∧ m' = p_all m (bg (d - 1)) x ∧ r' = p_cp (m - bg (d - 1)) (p_all m (bg (d - 1)) x - m) m r) : MR m' r' (d - 1) bg rd (k_clo h q d a x) := by
  obtain ⟨a1, a2, q', a3, a4, a5, a6, a7⟩ := hR
  have e : q' = q := (nI_eq (by omega) (by omega)).mp (a3.symm.trans eq)
  subst e
  have hag := p_all_ge ha hx1
  have hal := p_all_le2 ha hq hx2
  have aeq : m ≤ 24 → a = bg (d - 1) := fun z => by
    obtain ⟨a', b1, b2, b3⟩ := a5 (d - 1) (by omega)
    have : a' = a := (nI_eq (by omega) (by omega)).mp (b1.symm.trans ea)
    rw [← this]; exact b3 z
  by_cases big : 24 < p_all q' a x
  · have m25 : m' = 25 := by
      rcases hs with z | z
      · exact z.2
      · exfalso
        obtain ⟨z1, -, -⟩ := z
        have m24 : m ≤ 24 := by omega
        have b1 := (a6 m24).1
        rw [← aeq m24, ← b1] at z1
        exact z1 (Or.inr big)
    have ek : k_clo h q' d a x = ev_set (ev_set h 63 31 (nI (d - 1))) 63 28 1 := if_pos big
    rw [ek]
    refine ⟨by rw [ev_rd3 (by decide)]; exact ev_rd1 _ _ _ _, fun i hi => by rw [ev_rd2 (by decide), ev_rd2 (by decide)]; exact a2 i (by omega), q', by rw [ev_rd3 (by decide), ev_rd3 (by decide)]; exact a3, a4, fun i hi => ?_, fun z => by omega, fun _ => Or.inl (by rw [ev_rd1]; decide)⟩
    obtain ⟨a', b1, b2, b3⟩ := a5 i (by omega)
    exact ⟨a', by rw [ev_rd2 (by decide), ev_rd2 (by decide)]; exact b1, b2, fun z => by omega⟩
  · have ek : k_clo h q' d a x = ev_set (h_rdr (ev_set h 63 31 (nI (d - 1))) (p_cp (q' - a) (p_all q' a x - q') q' (h 75))) 63 27 (nI (p_all q' a x)) := if_neg big
    rw [ek]
    have e28 : ev_set (h_rdr (ev_set h 63 31 (nI (d - 1))) (p_cp (q' - a) (p_all q' a x - q') q' (h 75))) 63 27 (nI (p_all q' a x)) 63 28 = h 63 28 := by rw [ev_rd3 (by decide), h_rdr_ne (by decide), ev_rd3 (by decide)]
    refine ⟨by rw [ev_rd3 (by decide), h_rdr_ne (by decide)]; exact ev_rd1 _ _ _ _, fun i hi => by rw [ev_rd2 (by decide), h_rdr_ne (by decide), ev_rd2 (by decide)]; exact a2 i (by omega), p_all q' a x, ev_rd1 _ _ _ _, by omega, fun i hi => ?_, fun z => ?_, fun z => ?_⟩
    · obtain ⟨a', b1, b2, b3⟩ := a5 i (by omega)
      refine ⟨a', by rw [ev_rd2 (by decide), h_rdr_ne (by decide), ev_rd2 (by decide)]; exact b1, by omega, fun z => b3 ?_⟩
      rcases hs with y | y
      · omega
      · have := y.1; omega
    · rcases hs with y | y
      · omega
      · obtain ⟨y1, y2, y3⟩ := y
        have m24 : m ≤ 24 := by omega
        obtain ⟨b1, b2, b3⟩ := a6 m24
        have ae := aeq m24
        subst b1
        rw [← ae] at y2 y3
        refine ⟨y2.symm, by rw [e28]; exact b2, fun i hi => ?_⟩
        rw [ev_rd2 (by decide), h_rdr_75, y3]
        by_cases o0 : q' - a = 0
        · have e0 : p_all q' a x = q' := by unfold p_all; rw [o0, Nat.zero_mul]; omega
          rw [e0, Nat.sub_self]
          exact b3 i (by omega)
        · exact p_cp_cg (q' - a) (by omega) _ q' (h 75) r (by omega) b3 i (by omega)
    · rw [e28]
      have m25 : 24 < m := by
        rcases Nat.lt_or_ge 24 m with y | y
        · exact y
        · exfalso
          have b1 := (a6 y).1
          rcases hs with z1 | z1
          · have ae := aeq y
            rw [← ae, ← b1] at z1
            omega
          · have z2 := z1.2.1
            have ae := aeq y
            rw [← ae, ← b1] at z2
            omega
      rcases a7 m25 with b1 | b1
      · exact Or.inl b1
      · omega

theorem jw_clo {h0 h : Hp} (hJ : JW [(63, 17), (63, 18), (63, 19), (63, 20), (63, 21), (63, 22), (63, 27), (63, 28), (63, 31), (75, 999), (76, 999), (77, 999)] h0 h) {q d a x : Nat} (hd4 : d ≤ 4) : JW [(63, 17), (63, 18), (63, 19), (63, 20), (63, 21), (63, 22), (63, 27), (63, 28), (63, 31), (75, 999), (76, 999), (77, 999)] h0 (k_clo h q d a x) := by
  unfold k_clo
  split
  · exact (hJ.set rfl (nI_4 (by omega))).set rfl (B.any _)
  · exact (JW.rdr (hJ.set rfl (nI_4 (by omega))) (p_cp_B _ _ _ _ (fun j => hJ.1 75 j)) (fun _ => rfl)).set rfl (nI_60 (by omega))
theorem k_clo_ne {h : Hp} {q d a x i j : Nat} (h1 : i ≠ 75) (h2 : ¬ (i = 63 ∧ (j = 27 ∨ j = 28 ∨ j = 31))) : k_clo h q d a x i j = h i j := by
  unfold k_clo
  split
  · unfold ev_set
    rw [if_neg (fun z => h2 ⟨z.1, Or.inr (Or.inl z.2)⟩), if_neg (fun z => h2 ⟨z.1, Or.inr (Or.inr z.2)⟩)]
  · unfold ev_set
    rw [if_neg (fun z => h2 ⟨z.1, Or.inl z.2⟩), h_rdr_ne h1, if_neg (fun z => h2 ⟨z.1, Or.inr (Or.inr z.2)⟩)]
