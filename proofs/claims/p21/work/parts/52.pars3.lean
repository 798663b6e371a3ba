def p_lk (T : Nat → Int32) (n p : Nat) : Int32 := if p < n then T p else -1
theorem lk_let (T : Nat → Int32) (n p : Nat) : z_wi (p_lk T n p) 97 122 = if p_let T n p then 1 else 0 := by
  unfold z_wi p_lk
  by_cases q : p < n
  · rw [if_pos q]
    by_cases q1 : T p < 97
    · rw [if_pos q1, if_neg (fun z => z.2.1 q1)]
    · rw [if_neg q1]
      by_cases q2 : 122 < T p
      · rw [if_pos q2, if_neg (fun z => z.2.2 q2)]
      · rw [if_neg q2, if_pos ⟨q, q1, q2⟩]
  · rw [if_neg q, if_pos (by decide), if_neg (fun z => q z.1)]
theorem lk_fig (T : Nat → Int32) (n p : Nat) : z_wi (p_lk T n p) 48 57 = if p_fig T n p then 1 else 0 := by
  unfold z_wi p_lk
  by_cases q : p < n
  · rw [if_pos q]
    by_cases q1 : T p < 48
    · rw [if_pos q1, if_neg (fun z => z.2.1 q1)]
    · rw [if_neg q1]
      by_cases q2 : 57 < T p
      · rw [if_pos q2, if_neg (fun z => z.2.2 q2)]
      · rw [if_neg q2, if_pos ⟨q, q1, q2⟩]
  · rw [if_neg q, if_pos (by decide), if_neg (fun z => q z.1)]

set_option maxRecDepth 100000 in
set_option maxHeartbeats 4000000 in
theorem c_look (L : Nat) (b : Bool) (h : Hp) (T : Nat → Int32) (n p : Nat) (hn : n ≤ 160) (hp : p ≤ 160) (e1 : h 63 16 = nI n) (eT : ∀ j, h 72 j = T j)  : EvD mi_X10_look [.ref 63, .int (nI p)] (G0 L b) h (p_lk T n p) (h) := by
  refine EvD.of (lo := [some (.ref 63), some (.int (nI p))]) pf_X10_look ok_X10_look rfl rfl ?_
  refine ev_iload_n rfl rfl rfl ?_
  refine ev_aload_n rfl rfl rfl ?_
  refine ev_getI rfl rfl fl_X10_186 rfl rfl rfl ?_
  try simp only [e1, eT]
  refine ev_icmp_ge rfl rfl (fun c_5 => ?_) (fun c_5 => ?_)
  · refine ev_iconst (v := (-1)) rfl rfl (by decide) ?_
    exact ev_iret rfl rfl rfl (⟨congrArg (fun z => some (Value.int z)) (if_neg (show ¬ p < n by have := (nI_le2 (show n < 2 ^ 31 by omega) (show p < 2 ^ 31 by omega)).mp c_5; omega)).symm, rfl, rfl⟩)
  · have hpn : p < n := nI_xle c_5 (by omega) (by omega)
    refine ev_aload_n rfl rfl rfl ?_
    refine ev_getR rfl rfl fl_X10_48 rfl rfl rfl rfl ?_
    refine ev_iload_n rfl rfl rfl ?_
    refine ev_iald rfl rfl rfl (vp_in_nI (by omega) (by decide)) (nI_clamp (by omega)) ?_
    try simp only [e1, eT]
    refine ev_goto rfl rfl ?_
    exact ev_iret rfl rfl rfl (⟨congrArg (fun z => some (Value.int z)) (if_pos hpn).symm, rfl, rfl⟩)

def s_bits (v : Int32) : Nat → Int32
  | 0 => 0
  | k + 1 => s_bits v k + (v >>> (nI k &&& 31) &&& 1)

set_option maxRecDepth 100000 in
set_option maxHeartbeats 4000000 in
theorem l_bits (G : Geo) (h : Hp) (v : Int32) : ∀ t i : Nat, i + t = 12 → EvQ mi_X10_bits 4 [some (.int v), some (.int (s_bits v i)), some (.int (nI i))] [] G h 0 0 (fun q G' h' => q = some (.int (s_bits v 12)) ∧ G' = G ∧ h' = h) := by
  intro t
  induction t with
  | zero =>
    intro i hi
    have hi2 : i = 12 := by omega
    subst hi2
    refine ev_iload_n rfl rfl rfl ?_
    refine ev_bipush (v := 12) rfl rfl (by decide) ?_
    refine ev_icmp_ge rfl rfl (fun c_7 => ?_) (fun z_ => absurd (show (12 : Int32) ≤ nI 12 by decide) z_)
    refine ev_iload_n rfl rfl rfl ?_
    exact ev_iret rfl rfl rfl (⟨rfl, rfl, rfl⟩)
  | succ t ih =>
    intro i hi
    refine ev_iload_n rfl rfl rfl ?_
    refine ev_bipush (v := 12) rfl rfl (by decide) ?_
    refine ev_icmp_ge rfl rfl (fun z_ => absurd z_ (show ¬ nI 12 ≤ nI i from nI_ge (by omega) (by omega))) (fun c_7 => ?_)
    refine ev_iload_n rfl rfl rfl ?_
    refine ev_iload_n rfl rfl rfl ?_
    refine ev_iload_n rfl rfl rfl ?_
    refine ev_ishr rfl rfl ?_
    refine ev_iconst (v := 1) rfl rfl (by decide) ?_
    refine ev_iand rfl rfl ?_
    refine ev_iadd rfl rfl ?_
    refine ev_istore_n rfl rfl rfl rfl ?_
    dsimp only [List.set]
    refine ev_iinc (y := 1) rfl rfl rfl (by decide) rfl rfl ?_
    dsimp only [List.set]
    refine ev_goto rfl rfl ?_
    have z_ := ih (i + 1) (by omega)
    simp only [s_bits] at z_
    rw [nI_1 i]
    exact z_

set_option maxRecDepth 100000 in
set_option maxHeartbeats 4000000 in
theorem c_bits (G : Geo) (h : Hp) (v : Int32) : EvD mi_X10_bits [.int v] G h (s_bits v 12) (h) := by
  refine EvD.of (lo := [some (.int v), none, none]) pf_X10_bits ok_X10_bits rfl rfl ?_
  refine ev_iconst (v := 0) rfl rfl (by decide) ?_
  refine ev_istore_n rfl rfl rfl rfl ?_
  dsimp only [List.set]
  refine ev_iconst (v := 0) rfl rfl (by decide) ?_
  refine ev_istore_n rfl rfl rfl rfl ?_
  dsimp only [List.set]
  exact l_bits G h v 12 0 (by omega)

theorem and_1 (x : Int32) : x &&& 1 = if x.toBitVec.getLsbD 0 then 1 else 0 := by
  refine Int32.toBitVec_inj.mp ?_
  rw [Int32.toBitVec_and]
  show x.toBitVec &&& 1#32 = _
  rw [BitVec.and_one_eq_setWidth_ofBool_getLsbD]
  cases x.toBitVec.getLsbD 0 <;> rfl
theorem bit_get (x : Int32) {k : Nat} (hk : k < 12) : x >>> (nI k &&& 31) &&& 1 = if x.toBitVec.getLsbD k then 1 else 0 := by
  rw [and_1]
  have e : (x >>> (nI k &&& 31)).toBitVec.getLsbD 0 = x.toBitVec.getLsbD k := by
    rcases (show k = 0 ∨ k = 1 ∨ k = 2 ∨ k = 3 ∨ k = 4 ∨ k = 5 ∨ k = 6 ∨ k = 7 ∨ k = 8 ∨ k = 9 ∨ k = 10 ∨ k = 11 by omega) with rfl | rfl | rfl | rfl | rfl | rfl | rfl | rfl | rfl | rfl | rfl | rfl <;> (rw [Int32.toBitVec_shiftRight]; show (x.toBitVec.sshiftRight _).getLsbD 0 = _; rw [BitVec.getLsbD_sshiftRight]; rfl)
  rw [e]
theorem shl_get {w k : Nat} (hw : w < 12) (hk : k < 12) : ((1 : Int32) <<< (nI w &&& 31)).toBitVec.getLsbD k = decide (k = w) := by
  rcases (show w = 0 ∨ w = 1 ∨ w = 2 ∨ w = 3 ∨ w = 4 ∨ w = 5 ∨ w = 6 ∨ w = 7 ∨ w = 8 ∨ w = 9 ∨ w = 10 ∨ w = 11 by omega) with rfl | rfl | rfl | rfl | rfl | rfl | rfl | rfl | rfl | rfl | rfl | rfl <;> rcases (show k = 0 ∨ k = 1 ∨ k = 2 ∨ k = 3 ∨ k = 4 ∨ k = 5 ∨ k = 6 ∨ k = 7 ∨ k = 8 ∨ k = 9 ∨ k = 10 ∨ k = 11 by omega) with rfl | rfl | rfl | rfl | rfl | rfl | rfl | rfl | rfl | rfl | rfl | rfl <;> decide
theorem or_bit (v : Int32) {w k : Nat} (hw : w < 12) (hk : k < 12) : (v ||| 1 <<< (nI w &&& 31)) >>> (nI k &&& 31) &&& 1 = if k = w then 1 else v >>> (nI k &&& 31) &&& 1 := by
  rw [bit_get _ hk, Int32.toBitVec_or, BitVec.getLsbD_or, shl_get hw hk, bit_get _ hk]
  by_cases q : k = w
  · rw [if_pos q, decide_eq_true q, Bool.or_true]
    rfl
  · rw [if_neg q, decide_eq_false q, Bool.or_false]
theorem s_bits_or (v : Int32) {w : Nat} (hw : w < 12) (hb : v >>> (nI w &&& 31) &&& 1 = 0) : ∀ n, n ≤ 12 → s_bits (v ||| 1 <<< (nI w &&& 31)) n = s_bits v n + (if w < n then 1 else 0)
  | 0, _ => rfl
  | n + 1, hn => by
    unfold s_bits
    rw [s_bits_or v hw hb n (by omega), or_bit v hw (by omega)]
    by_cases q : n = w
    · subst q
      rw [if_pos rfl, if_neg (by omega), if_pos (by omega), hb, Int32.add_zero]
    · rw [if_neg q]
      by_cases q2 : w < n
      · rw [if_pos q2, if_pos (by omega), Int32.add_assoc, Int32.add_comm 1, ← Int32.add_assoc]
      · rw [if_neg q2, if_neg (by omega), Int32.add_zero, Int32.add_zero]
theorem bits_s {v x : Int32} {c : Nat} (hx : B x 0 11) (hb : v >>> (x &&& 31) &&& 1 = 0) (e : s_bits v 12 = nI c) : s_bits (v ||| 1 <<< (x &&& 31)) 12 = nI (c + 1) := by
  have p : B x 0 ((11 : Nat) : Int) := hx
  have l := (B.nI p).2
  have ex := (B.nI p).1
  rw [ex] at hb ⊢
  rw [s_bits_or v (by omega) hb 12 (by omega), if_pos (by omega), e, nI_1]
theorem bit01 (x : Int32) : x &&& 1 = 0 ∨ x &&& 1 = 1 := by
  rw [and_1]
  cases x.toBitVec.getLsbD 0
  · exact Or.inl rfl
  · exact Or.inr rfl

def MCH (o : Option (Int32 × Nat)) (z : Hp) : Prop := match o with
  | some x => z 63 21 = 0 ∧ z 63 19 = 1 ∧ z 63 20 = x.1 ∧ z 63 17 = nI x.2
  | none => ¬ z 63 21 = 0

set_option maxRecDepth 100000 in
set_option maxHeartbeats 4000000 in
theorem c_fails0 (L : Nat) (b : Bool) (h : Hp) (hf : h 63 21 = 0) (f p : Int32) : EvU mi_X10_fails [.ref 63, .int f, .int p] (G0 L b) h (ev_set (ev_set h 63 21 f) 63 22 p) := by
  refine EvU.of (lo := [some (.ref 63), some (.int f), some (.int p)]) pf_X10_fails ok_X10_fails rfl rfl ?_
  refine ev_aload_n rfl rfl rfl ?_
  refine ev_getI rfl rfl fl_X10_191 rfl rfl rfl ?_
  refine ev_if_ne rfl rfl (fun z_ => absurd hf z_) (fun c_4 => ?_)
  refine ev_aload_n rfl rfl rfl ?_
  refine ev_iload_n rfl rfl rfl ?_
  refine ev_putI rfl rfl fl_X10_191 rfl rfl rfl rfl rfl ?_
  refine ev_aload_n rfl rfl rfl ?_
  refine ev_iload_n rfl rfl rfl ?_
  refine ev_putI rfl rfl fl_X10_194 rfl rfl rfl rfl rfl ?_
  exact ev_vret rfl rfl trivial (⟨rfl, rfl, rfl⟩)

set_option maxRecDepth 100000 in
set_option maxHeartbeats 4000000 in
theorem c_fails1 (L : Nat) (b : Bool) (h : Hp) (hf : ¬ h 63 21 = 0) (f p : Int32) : EvU mi_X10_fails [.ref 63, .int f, .int p] (G0 L b) h (h) := by
  refine EvU.of (lo := [some (.ref 63), some (.int f), some (.int p)]) pf_X10_fails ok_X10_fails rfl rfl ?_
  refine ev_aload_n rfl rfl rfl ?_
  refine ev_getI rfl rfl fl_X10_191 rfl rfl rfl ?_
  refine ev_if_ne rfl rfl (fun c_4 => ?_) (fun z_ => absurd z_ hf)
  exact ev_vret rfl rfl trivial (⟨rfl, rfl, rfl⟩)

set_option maxRecDepth 100000 in
set_option maxHeartbeats 4000000 in
theorem l_mchX (L : Nat) (b : Bool) (h h1 : Hp) (T : Nat → Int32) (n p : Nat) (R : Hp → Prop) (hn : n ≤ 160) (hp : p ≤ 160) (hJ : JW [(63, 17), (63, 18), (63, 19), (63, 20), (63, 21), (63, 22)] h h1) (e1 : h1 63 16 = nI n) (eT : ∀ j, h1 72 j = T j) (e17 : h1 63 17 = nI p) (e21 : ¬ h1 63 21 = 0) (hR : R h1) : EvQ mi_X10_readChord 10 [some (.ref 63), none] [] (G0 L b) h1 0 0 (QK R [(63, 17), (63, 18), (63, 19), (63, 20), (63, 21), (63, 22)] (G0 L b) h) := by
  refine ev_aload_n rfl rfl rfl ?_
  refine ev_aload_n rfl rfl rfl ?_
  refine ev_getI rfl rfl fl_X10_210 rfl rfl rfl ?_
  try simp (disch := decide) only [e17]
  refine ev_V1D rfl rfl lk_X10_213 vt_X10_look rfl rfl rfl rfl rfl (c_look L b _ T n p hn (by omega) (by first | exact e1 | (simp (disch := decide) only [ev_rd1, ev_rd2, ev_rd3]; exact e1)) (fun j => by first | exact eT j | (simp (disch := decide) only [ev_rd1, ev_rd2, ev_rd3]; exact eT j))) ?_
  refine ev_i2l rfl rfl ?_
  refine ev_ldc2 rfl rfl kc_X10_216 ?_
  refine ev_ldc2 rfl rfl kc_X10_218 ?_
  refine ev_S3D rfl rfl lk_X10_124 st_X10_in rfl rfl (c_inw _ _ _ 97 122 (by decide) (by decide)) ?_
  rw [lk_let]
  refine ev_if_eq rfl rfl (fun c_28 => ?_) (fun c_28 => ?_)
  · exact ev_vret rfl rfl trivial (⟨rfl, rfl, hJ, hR⟩)
  · refine ev_aload_n rfl rfl rfl ?_
    refine ev_getI rfl rfl fl_X10_191 rfl rfl rfl ?_
    try simp (disch := decide) only [e17]
    refine ev_if_ne rfl rfl (fun c_35 => ?_) (fun z_ => absurd z_ e21)
    exact ev_vret rfl rfl trivial (⟨rfl, rfl, hJ, hR⟩)

theorem p_lt12 {T : Nat → Int32} {n p : Nat} (h : p_let T n p) (c : T p - 97 ≤ 11) : T p - 97 < 12 := by
  have z := w_le c
  have e1 : (11 : Int32).toInt = 11 := by decide
  have e2 : (12 : Int32).toInt = 12 := by decide
  rw [Int32.lt_iff_toInt_lt]
  omega
theorem le11 {T : Nat → Int32} {n p : Nat} (h : p_let T n p) (c : T p - 97 < 12) : T p - 97 ≤ 11 := by
  have z := w_lt c
  have e1 : (11 : Int32).toInt = 11 := by decide
  have e2 : (12 : Int32).toInt = 12 := by decide
  rw [Int32.le_iff_toInt_le]
  omega

set_option maxRecDepth 100000 in
set_option maxHeartbeats 4000000 in
theorem l_mch (L : Nat) (b : Bool) (h : Hp) (T : Nat → Int32) (n : Nat) (hn : n ≤ 160) : ∀ (k c p : Nat) (v : Int32) (h1 : Hp), k + c = 5 → p ≤ n → JW [(63, 17), (63, 18), (63, 19), (63, 20), (63, 21), (63, 22)] h h1 → h1 63 16 = nI n → (∀ j, h1 72 j = T j) → h1 63 17 = nI p → h1 63 19 = 1 → h1 63 20 = v → h1 63 21 = 0 → B v 0 4095 → s_bits v 12 = nI c → EvQ mi_X10_readChord 10 [some (.ref 63), none] [] (G0 L b) h1 0 0 (QK (MCH (p_ch T n (k + 1) p v c)) [(63, 17), (63, 18), (63, 19), (63, 20), (63, 21), (63, 22)] (G0 L b) h) := by
  intro k
  induction k with
  | zero =>
    intro c p v h1 hk hp hJ e1 eT e17 e19 e20 e21 hv e_b
    refine ev_aload_n rfl rfl rfl ?_
    refine ev_aload_n rfl rfl rfl ?_
    refine ev_getI rfl rfl fl_X10_210 rfl rfl rfl ?_
    try simp (disch := decide) only [ev_rd1, ev_rd2, ev_rd3, e1, e17, e20]
    refine ev_V1D rfl rfl lk_X10_213 vt_X10_look rfl rfl rfl rfl rfl (c_look L b _ T n p hn (by omega) (by first | exact e1 | (simp (disch := decide) only [ev_rd1, ev_rd2, ev_rd3]; exact e1)) (fun j => by first | exact eT j | (simp (disch := decide) only [ev_rd1, ev_rd2, ev_rd3]; exact eT j))) ?_
    refine ev_i2l rfl rfl ?_
    refine ev_ldc2 rfl rfl kc_X10_216 ?_
    refine ev_ldc2 rfl rfl kc_X10_218 ?_
    refine ev_S3D rfl rfl lk_X10_124 st_X10_in rfl rfl (c_inw _ _ _ 97 122 (by decide) (by decide)) ?_
    rw [lk_let]
    refine ev_if_eq rfl rfl (fun c_28 => ?_) (fun c_28 => ?_)
    · exact ev_vret rfl rfl trivial (⟨rfl, rfl, hJ, by unfold p_ch; rw [if_neg (if01 c_28)]; exact ⟨e21, e19, e20, e17⟩⟩)
    · refine ev_aload_n rfl rfl rfl ?_
      refine ev_getI rfl rfl fl_X10_191 rfl rfl rfl ?_
      try simp (disch := decide) only [ev_rd1, ev_rd2, ev_rd3, e1, e17, e20]
      refine ev_if_ne rfl rfl (fun z_ => absurd e21 z_) (fun c_35 => ?_)
      have hl : p_let T n p := if01n c_28
      have hpn := hl.1
      have elk : p_lk T n p = T p := if_pos hpn
      refine ev_aload_n rfl rfl rfl ?_
      refine ev_aload_n rfl rfl rfl ?_
      refine ev_getI rfl rfl fl_X10_210 rfl rfl rfl ?_
      try simp (disch := decide) only [ev_rd1, ev_rd2, ev_rd3, e1, e17, e20]
      refine ev_V1D rfl rfl lk_X10_213 vt_X10_look rfl rfl rfl rfl rfl (c_look L b _ T n p hn (by omega) (by first | exact e1 | (simp (disch := decide) only [ev_rd1, ev_rd2, ev_rd3]; exact e1)) (fun j => by first | exact eT j | (simp (disch := decide) only [ev_rd1, ev_rd2, ev_rd3]; exact eT j))) ?_
      rw [elk]
      refine ev_bipush (v := 97) rfl rfl (by decide) ?_
      refine ev_isub rfl rfl ?_
      refine ev_istore_n rfl rfl rfl rfl ?_
      dsimp only [List.set]
      refine ev_iload_n rfl rfl rfl ?_
      refine ev_bipush (v := 11) rfl rfl (by decide) ?_
      refine ev_icmp_le rfl rfl (fun c_53 => ?_) (fun c_53 => ?_)
      · refine ev_aload_n rfl rfl rfl ?_
        refine ev_getI rfl rfl fl_X10_207 rfl rfl rfl ?_
        try simp (disch := decide) only [ev_rd1, ev_rd2, ev_rd3, e1, e17, e20]
        refine ev_iload_n rfl rfl rfl ?_
        refine ev_ishr rfl rfl ?_
        refine ev_iconst (v := 1) rfl rfl (by decide) ?_
        refine ev_iand rfl rfl ?_
        refine ev_iconst (v := 1) rfl rfl (by decide) ?_
        refine ev_icmp_eq rfl rfl (fun c_77 => ?_) (fun c_77 => ?_)
        · refine ev_aload_n rfl rfl rfl ?_
          refine ev_iconst (v := 4) rfl rfl (by decide) ?_
          refine ev_aload_n rfl rfl rfl ?_
          refine ev_getI rfl rfl fl_X10_210 rfl rfl rfl ?_
          try simp (disch := decide) only [ev_rd1, ev_rd2, ev_rd3, e1, e17, e20]
          refine ev_V2U rfl rfl lk_X10_200 vt_X10_fails rfl rfl rfl rfl rfl (c_fails0 L b _ e21 _ _) ?_
          refine ev_goto rfl rfl ?_
          refine ev_aload_n rfl rfl rfl ?_
          refine ev_dup rfl rfl rfl ?_
          refine ev_getI rfl rfl fl_X10_210 rfl rfl rfl ?_
          try simp (disch := decide) only [ev_rd1, ev_rd2, ev_rd3, e1, e17, e20]
          refine ev_iconst (v := 1) rfl rfl (by decide) ?_
          refine ev_iadd rfl rfl ?_
          refine ev_putI rfl rfl fl_X10_210 rfl rfl rfl rfl rfl ?_
          refine ev_goto rfl rfl ?_
          have er : p_ch T n (0 + 1) p v c = none := by
            conv => lhs; unfold p_ch
            rw [if_pos hl, if_pos (p_lt12 hl c_53), if_neg (fun z_ => absurd (z_.symm.trans c_77) (by decide))]
          rw [er, show nI p + 1 = nI (p + 1) from nI_1 p]
          exact EvQ.drop 1 (l_mchX L b h _ T n (p + 1) _ hn (by omega) (((hJ.set rfl (by decide)).set rfl (B.any _)).set rfl (nI_160 (by omega))) (by simp (disch := decide) only [ev_rd1, ev_rd2, ev_rd3]; exact e1) (fun j => by simp (disch := decide) only [ev_rd1, ev_rd2, ev_rd3]; exact eT j) (by simp (disch := decide) only [ev_rd1, ev_rd2, ev_rd3]) (by simp (disch := decide) only [ev_rd1, ev_rd2, ev_rd3]; decide) (show ¬ _ = _ by simp (disch := decide) only [ev_rd1, ev_rd2, ev_rd3]; decide))
        · have hz : v >>> ((T p - 97) &&& 31) &&& 1 = 0 := (bit01 _).elim id (fun z_ => absurd z_ c_77)
          refine ev_aload_n rfl rfl rfl ?_
          refine ev_getI rfl rfl fl_X10_207 rfl rfl rfl ?_
          try simp (disch := decide) only [ev_rd1, ev_rd2, ev_rd3, e1, e17, e20]
          refine ev_S1D rfl rfl lk_X10_220 st_X10_bits rfl rfl (c_bits _ _ _) ?_
          refine ev_iconst (v := 5) rfl rfl (by decide) ?_
          refine ev_icmp_ne rfl rfl (fun z_ => absurd (show s_bits v 12 = 5 from by rw [e_b, show c = 5 by omega]; rfl) z_) (fun c_88 => ?_)
          refine ev_aload_n rfl rfl rfl ?_
          refine ev_iconst (v := 4) rfl rfl (by decide) ?_
          refine ev_aload_n rfl rfl rfl ?_
          refine ev_getI rfl rfl fl_X10_210 rfl rfl rfl ?_
          try simp (disch := decide) only [ev_rd1, ev_rd2, ev_rd3, e1, e17, e20]
          refine ev_V2U rfl rfl lk_X10_200 vt_X10_fails rfl rfl rfl rfl rfl (c_fails0 L b _ e21 _ _) ?_
          refine ev_goto rfl rfl ?_
          refine ev_aload_n rfl rfl rfl ?_
          refine ev_dup rfl rfl rfl ?_
          refine ev_getI rfl rfl fl_X10_210 rfl rfl rfl ?_
          try simp (disch := decide) only [ev_rd1, ev_rd2, ev_rd3, e1, e17, e20]
          refine ev_iconst (v := 1) rfl rfl (by decide) ?_
          refine ev_iadd rfl rfl ?_
          refine ev_putI rfl rfl fl_X10_210 rfl rfl rfl rfl rfl ?_
          refine ev_goto rfl rfl ?_
          have er : p_ch T n (0 + 1) p v c = none := by
            conv => lhs; unfold p_ch
            rw [if_pos hl, if_pos (p_lt12 hl c_53), if_pos hz, if_pos (by omega)]
          rw [er, show nI p + 1 = nI (p + 1) from nI_1 p]
          exact EvQ.drop 1 (l_mchX L b h _ T n (p + 1) _ hn (by omega) (((hJ.set rfl (by decide)).set rfl (B.any _)).set rfl (nI_160 (by omega))) (by simp (disch := decide) only [ev_rd1, ev_rd2, ev_rd3]; exact e1) (fun j => by simp (disch := decide) only [ev_rd1, ev_rd2, ev_rd3]; exact eT j) (by simp (disch := decide) only [ev_rd1, ev_rd2, ev_rd3]) (by simp (disch := decide) only [ev_rd1, ev_rd2, ev_rd3]; decide) (show ¬ _ = _ by simp (disch := decide) only [ev_rd1, ev_rd2, ev_rd3]; decide))
      · refine ev_aload_n rfl rfl rfl ?_
        refine ev_iconst (v := 1) rfl rfl (by decide) ?_
        refine ev_aload_n rfl rfl rfl ?_
        refine ev_getI rfl rfl fl_X10_210 rfl rfl rfl ?_
        try simp (disch := decide) only [ev_rd1, ev_rd2, ev_rd3, e1, e17, e20]
        refine ev_V2U rfl rfl lk_X10_200 vt_X10_fails rfl rfl rfl rfl rfl (c_fails0 L b _ e21 _ _) ?_
        refine ev_goto rfl rfl ?_
        refine ev_aload_n rfl rfl rfl ?_
        refine ev_dup rfl rfl rfl ?_
        refine ev_getI rfl rfl fl_X10_210 rfl rfl rfl ?_
        try simp (disch := decide) only [ev_rd1, ev_rd2, ev_rd3, e1, e17, e20]
        refine ev_iconst (v := 1) rfl rfl (by decide) ?_
        refine ev_iadd rfl rfl ?_
        refine ev_putI rfl rfl fl_X10_210 rfl rfl rfl rfl rfl ?_
        refine ev_goto rfl rfl ?_
        have er : p_ch T n (0 + 1) p v c = none := by
          conv => lhs; unfold p_ch
          rw [if_pos hl, if_neg (fun z_ => c_53 (le11 hl z_))]
        rw [er, show nI p + 1 = nI (p + 1) from nI_1 p]
        exact EvQ.drop 1 (l_mchX L b h _ T n (p + 1) _ hn (by omega) (((hJ.set rfl (by decide)).set rfl (B.any _)).set rfl (nI_160 (by omega))) (by simp (disch := decide) only [ev_rd1, ev_rd2, ev_rd3]; exact e1) (fun j => by simp (disch := decide) only [ev_rd1, ev_rd2, ev_rd3]; exact eT j) (by simp (disch := decide) only [ev_rd1, ev_rd2, ev_rd3]) (by simp (disch := decide) only [ev_rd1, ev_rd2, ev_rd3]; decide) (show ¬ _ = _ by simp (disch := decide) only [ev_rd1, ev_rd2, ev_rd3]; decide))
  | succ k ih =>
    intro c p v h1 hk hp hJ e1 eT e17 e19 e20 e21 hv e_b
    refine ev_aload_n rfl rfl rfl ?_
    refine ev_aload_n rfl rfl rfl ?_
    refine ev_getI rfl rfl fl_X10_210 rfl rfl rfl ?_
    try simp (disch := decide) only [ev_rd1, ev_rd2, ev_rd3, e1, e17, e20]
    refine ev_V1D rfl rfl lk_X10_213 vt_X10_look rfl rfl rfl rfl rfl (c_look L b _ T n p hn (by omega) (by first | exact e1 | (simp (disch := decide) only [ev_rd1, ev_rd2, ev_rd3]; exact e1)) (fun j => by first | exact eT j | (simp (disch := decide) only [ev_rd1, ev_rd2, ev_rd3]; exact eT j))) ?_
    refine ev_i2l rfl rfl ?_
    refine ev_ldc2 rfl rfl kc_X10_216 ?_
    refine ev_ldc2 rfl rfl kc_X10_218 ?_
    refine ev_S3D rfl rfl lk_X10_124 st_X10_in rfl rfl (c_inw _ _ _ 97 122 (by decide) (by decide)) ?_
    rw [lk_let]
    refine ev_if_eq rfl rfl (fun c_28 => ?_) (fun c_28 => ?_)
    · exact ev_vret rfl rfl trivial (⟨rfl, rfl, hJ, by unfold p_ch; rw [if_neg (if01 c_28)]; exact ⟨e21, e19, e20, e17⟩⟩)
    · refine ev_aload_n rfl rfl rfl ?_
      refine ev_getI rfl rfl fl_X10_191 rfl rfl rfl ?_
      try simp (disch := decide) only [ev_rd1, ev_rd2, ev_rd3, e1, e17, e20]
      refine ev_if_ne rfl rfl (fun z_ => absurd e21 z_) (fun c_35 => ?_)
      have hl : p_let T n p := if01n c_28
      have hpn := hl.1
      have elk : p_lk T n p = T p := if_pos hpn
      refine ev_aload_n rfl rfl rfl ?_
      refine ev_aload_n rfl rfl rfl ?_
      refine ev_getI rfl rfl fl_X10_210 rfl rfl rfl ?_
      try simp (disch := decide) only [ev_rd1, ev_rd2, ev_rd3, e1, e17, e20]
      refine ev_V1D rfl rfl lk_X10_213 vt_X10_look rfl rfl rfl rfl rfl (c_look L b _ T n p hn (by omega) (by first | exact e1 | (simp (disch := decide) only [ev_rd1, ev_rd2, ev_rd3]; exact e1)) (fun j => by first | exact eT j | (simp (disch := decide) only [ev_rd1, ev_rd2, ev_rd3]; exact eT j))) ?_
      rw [elk]
      refine ev_bipush (v := 97) rfl rfl (by decide) ?_
      refine ev_isub rfl rfl ?_
      refine ev_istore_n rfl rfl rfl rfl ?_
      dsimp only [List.set]
      refine ev_iload_n rfl rfl rfl ?_
      refine ev_bipush (v := 11) rfl rfl (by decide) ?_
      refine ev_icmp_le rfl rfl (fun c_53 => ?_) (fun c_53 => ?_)
      · refine ev_aload_n rfl rfl rfl ?_
        refine ev_getI rfl rfl fl_X10_207 rfl rfl rfl ?_
        try simp (disch := decide) only [ev_rd1, ev_rd2, ev_rd3, e1, e17, e20]
        refine ev_iload_n rfl rfl rfl ?_
        refine ev_ishr rfl rfl ?_
        refine ev_iconst (v := 1) rfl rfl (by decide) ?_
        refine ev_iand rfl rfl ?_
        refine ev_iconst (v := 1) rfl rfl (by decide) ?_
        refine ev_icmp_eq rfl rfl (fun c_77 => ?_) (fun c_77 => ?_)
        · refine ev_aload_n rfl rfl rfl ?_
          refine ev_iconst (v := 4) rfl rfl (by decide) ?_
          refine ev_aload_n rfl rfl rfl ?_
          refine ev_getI rfl rfl fl_X10_210 rfl rfl rfl ?_
          try simp (disch := decide) only [ev_rd1, ev_rd2, ev_rd3, e1, e17, e20]
          refine ev_V2U rfl rfl lk_X10_200 vt_X10_fails rfl rfl rfl rfl rfl (c_fails0 L b _ e21 _ _) ?_
          refine ev_goto rfl rfl ?_
          refine ev_aload_n rfl rfl rfl ?_
          refine ev_dup rfl rfl rfl ?_
          refine ev_getI rfl rfl fl_X10_210 rfl rfl rfl ?_
          try simp (disch := decide) only [ev_rd1, ev_rd2, ev_rd3, e1, e17, e20]
          refine ev_iconst (v := 1) rfl rfl (by decide) ?_
          refine ev_iadd rfl rfl ?_
          refine ev_putI rfl rfl fl_X10_210 rfl rfl rfl rfl rfl ?_
          refine ev_goto rfl rfl ?_
          have er : p_ch T n (k + 1 + 1) p v c = none := by
            conv => lhs; unfold p_ch
            rw [if_pos hl, if_pos (p_lt12 hl c_53), if_neg (fun z_ => absurd (z_.symm.trans c_77) (by decide))]
          rw [er, show nI p + 1 = nI (p + 1) from nI_1 p]
          exact EvQ.drop 1 (l_mchX L b h _ T n (p + 1) _ hn (by omega) (((hJ.set rfl (by decide)).set rfl (B.any _)).set rfl (nI_160 (by omega))) (by simp (disch := decide) only [ev_rd1, ev_rd2, ev_rd3]; exact e1) (fun j => by simp (disch := decide) only [ev_rd1, ev_rd2, ev_rd3]; exact eT j) (by simp (disch := decide) only [ev_rd1, ev_rd2, ev_rd3]) (by simp (disch := decide) only [ev_rd1, ev_rd2, ev_rd3]; decide) (show ¬ _ = _ by simp (disch := decide) only [ev_rd1, ev_rd2, ev_rd3]; decide))
        · have hz : v >>> ((T p - 97) &&& 31) &&& 1 = 0 := (bit01 _).elim id (fun z_ => absurd z_ c_77)
          refine ev_aload_n rfl rfl rfl ?_
          refine ev_getI rfl rfl fl_X10_207 rfl rfl rfl ?_
          try simp (disch := decide) only [ev_rd1, ev_rd2, ev_rd3, e1, e17, e20]
          refine ev_S1D rfl rfl lk_X10_220 st_X10_bits rfl rfl (c_bits _ _ _) ?_
          refine ev_iconst (v := 5) rfl rfl (by decide) ?_
          refine ev_icmp_ne rfl rfl (fun c_88 => ?_) (fun z_ => absurd z_ (show ¬ s_bits v 12 = 5 from by rw [e_b]; exact fun z_ => absurd ((nI_eq (a := c) (b := 5) (by omega) (by decide)).mp z_) (by omega)))
          refine ev_aload_n rfl rfl rfl ?_
          refine ev_dup rfl rfl rfl ?_
          refine ev_getI rfl rfl fl_X10_207 rfl rfl rfl ?_
          try simp (disch := decide) only [ev_rd1, ev_rd2, ev_rd3, e1, e17, e20]
          refine ev_iconst (v := 1) rfl rfl (by decide) ?_
          refine ev_iload_n rfl rfl rfl ?_
          refine ev_ishl rfl rfl ?_
          refine ev_ior rfl rfl ?_
          refine ev_putI rfl rfl fl_X10_207 rfl rfl rfl rfl rfl ?_
          refine ev_aload_n rfl rfl rfl ?_
          refine ev_dup rfl rfl rfl ?_
          refine ev_getI rfl rfl fl_X10_210 rfl rfl rfl ?_
          try simp (disch := decide) only [ev_rd1, ev_rd2, ev_rd3, e1, e17, e20]
          refine ev_iconst (v := 1) rfl rfl (by decide) ?_
          refine ev_iadd rfl rfl ?_
          refine ev_putI rfl rfl fl_X10_210 rfl rfl rfl rfl rfl ?_
          refine ev_goto rfl rfl ?_
          have hc6 : ¬ c = 5 := fun z_ => c_88 (by rw [e_b, z_]; rfl)
          have y_ : p_ch T n (k + 1 + 1) p v c = p_ch T n (k + 1) (p + 1) (v ||| 1 <<< ((T p - 97) &&& 31)) (c + 1) := by
            conv => lhs; unfold p_ch
            rw [if_pos hl, if_pos (p_lt12 hl c_53), if_pos hz, if_neg hc6]
          rw [y_, show nI p + 1 = nI (p + 1) from nI_1 p]
          have hv2 := p_vB hv hl (p_lt12 hl c_53)
          exact EvQ.drop 1 (ih (c + 1) (p + 1) (v ||| 1 <<< ((T p - 97) &&& 31)) _ (by omega) (by omega) ((hJ.set rfl (B.any _)).set rfl (nI_160 (by omega))) (by simp (disch := decide) only [ev_rd1, ev_rd2, ev_rd3]; exact e1) (fun j => by simp (disch := decide) only [ev_rd1, ev_rd2, ev_rd3]; exact eT j) (by simp (disch := decide) only [ev_rd1, ev_rd2, ev_rd3]) (by simp (disch := decide) only [ev_rd1, ev_rd2, ev_rd3]; exact e19) (by simp (disch := decide) only [ev_rd1, ev_rd2, ev_rd3]) (by simp (disch := decide) only [ev_rd1, ev_rd2, ev_rd3]; exact e21) hv2 (bits_s (p_wB hl (p_lt12 hl c_53)) hz e_b))
      · refine ev_aload_n rfl rfl rfl ?_
        refine ev_iconst (v := 1) rfl rfl (by decide) ?_
        refine ev_aload_n rfl rfl rfl ?_
        refine ev_getI rfl rfl fl_X10_210 rfl rfl rfl ?_
        try simp (disch := decide) only [ev_rd1, ev_rd2, ev_rd3, e1, e17, e20]
        refine ev_V2U rfl rfl lk_X10_200 vt_X10_fails rfl rfl rfl rfl rfl (c_fails0 L b _ e21 _ _) ?_
        refine ev_goto rfl rfl ?_
        refine ev_aload_n rfl rfl rfl ?_
        refine ev_dup rfl rfl rfl ?_
        refine ev_getI rfl rfl fl_X10_210 rfl rfl rfl ?_
        try simp (disch := decide) only [ev_rd1, ev_rd2, ev_rd3, e1, e17, e20]
        refine ev_iconst (v := 1) rfl rfl (by decide) ?_
        refine ev_iadd rfl rfl ?_
        refine ev_putI rfl rfl fl_X10_210 rfl rfl rfl rfl rfl ?_
        refine ev_goto rfl rfl ?_
        have er : p_ch T n (k + 1 + 1) p v c = none := by
          conv => lhs; unfold p_ch
          rw [if_pos hl, if_neg (fun z_ => c_53 (le11 hl z_))]
        rw [er, show nI p + 1 = nI (p + 1) from nI_1 p]
        exact EvQ.drop 1 (l_mchX L b h _ T n (p + 1) _ hn (by omega) (((hJ.set rfl (by decide)).set rfl (B.any _)).set rfl (nI_160 (by omega))) (by simp (disch := decide) only [ev_rd1, ev_rd2, ev_rd3]; exact e1) (fun j => by simp (disch := decide) only [ev_rd1, ev_rd2, ev_rd3]; exact eT j) (by simp (disch := decide) only [ev_rd1, ev_rd2, ev_rd3]) (by simp (disch := decide) only [ev_rd1, ev_rd2, ev_rd3]; decide) (show ¬ _ = _ by simp (disch := decide) only [ev_rd1, ev_rd2, ev_rd3]; decide))

set_option maxRecDepth 100000 in
set_option maxHeartbeats 4000000 in
theorem w_readChordM (L : Nat) (b : Bool) (h : Hp) (hB : Bx h) (T : Nat → Int32) (n p : Nat) (hn : n ≤ 160) (hp : p ≤ n) (e1 : h 63 16 = nI n) (eT : ∀ j, h 72 j = T j) (e17 : h 63 17 = nI p) (e21 : h 63 21 = 0)  : EvK mi_X10_readChord [.ref 63] (G0 L b) h (MCH (p_ch T n 6 p 0 0)) [(63, 17), (63, 18), (63, 19), (63, 20), (63, 21), (63, 22)] := by
  refine EvM.of2 (lo := [some (.ref 63), none]) pf_X10_readChord ok_X10_readChord rfl rfl ?_
  refine ev_aload_n rfl rfl rfl ?_
  refine ev_iconst (v := 1) rfl rfl (by decide) ?_
  refine ev_putI rfl rfl fl_X10_204 rfl rfl rfl rfl rfl ?_
  refine ev_aload_n rfl rfl rfl ?_
  refine ev_iconst (v := 0) rfl rfl (by decide) ?_
  refine ev_putI rfl rfl fl_X10_207 rfl rfl rfl rfl rfl ?_
  exact l_mch L b h T n hn 5 0 p 0 _ (by omega) hp (((JW.refl hB).set rfl (by decide)).set rfl (B.any _)) (by simp (disch := decide) only [ev_rd1, ev_rd2, ev_rd3]; exact e1) (fun j => by simp (disch := decide) only [ev_rd1, ev_rd2, ev_rd3]; exact eT j) (by simp (disch := decide) only [ev_rd1, ev_rd2, ev_rd3]; exact e17) (by simp (disch := decide) only [ev_rd1, ev_rd2, ev_rd3]) (by simp (disch := decide) only [ev_rd1, ev_rd2, ev_rd3]) (by simp (disch := decide) only [ev_rd1, ev_rd2, ev_rd3]; exact e21) (by decide) (by decide)

def MTK (o : Option (Nat × Int32 × Nat)) (z : Hp) : Prop := match o with
  | some (t, v, e) => z 63 21 = 0 ∧ z 63 17 = nI e ∧ (t = 0 → z 63 19 = 0) ∧ (t = 1 → z 63 19 = 1 ∧ z 63 20 = v) ∧ (t = 2 → z 63 19 = 2 ∧ z 63 20 = v) ∧ (t = 3 → z 63 19 = 3 ∧ z 63 20 = 46) ∧ (t = 4 → z 63 19 = 3 ∧ z 63 20 = 40) ∧ (t = 5 → z 63 19 = 3 ∧ z 63 20 = 41)
  | none => ¬ z 63 21 = 0
def p_vv (T : Nat → Int32) (q : Nat) : Nat → Int32
  | 0 => 0
  | 1 => 0 * 10 + T q - 48
  | _ => (0 * 10 + T q - 48) * 10 + T (q + 1) - 48
def p_n2 (T : Nat → Int32) (n q : Nat) : Option (Nat × Int32 × Nat) := match p_nm T n q with
  | some x => some (2, x.1, x.2)
  | none => none
theorem mt_nm1 {T : Nat → Int32} {n q j : Nat} {z : Hp} (hf : ∀ i, i < j → p_fig T n (q + i)) (hn : ¬ p_fig T n (q + j)) (h1 : 1 ≤ j) (h2 : j ≤ 2) (a1 : z 63 21 = 0) (a2 : z 63 17 = nI (q + j)) (a3 : z 63 19 = 2) (a4 : z 63 20 = p_vv T q j) : MTK (p_n2 T n q) z := by
  rcases (show j = 1 ∨ j = 2 by omega) with rfl | rfl
  · have e : p_n2 T n q = some (2, 0 * 10 + T q - 48, q + 1) := by
      unfold p_n2 p_nm
      rw [if_neg hn]
    rw [e]
    exact ⟨a1, a2, fun z => absurd z (by decide), fun z => absurd z (by decide), fun _ => ⟨a3, a4⟩, fun z => absurd z (by decide), fun z => absurd z (by decide), fun z => absurd z (by decide)⟩
  · have e : p_n2 T n q = some (2, (0 * 10 + T q - 48) * 10 + T (q + 1) - 48, q + 2) := by
      unfold p_n2 p_nm
      rw [if_pos (hf 1 (by decide)), if_neg hn]
    rw [e]
    exact ⟨a1, a2, fun z => absurd z (by decide), fun z => absurd z (by decide), fun _ => ⟨a3, a4⟩, fun z => absurd z (by decide), fun z => absurd z (by decide), fun z => absurd z (by decide)⟩
theorem mt_nm2 {T : Nat → Int32} {n q j : Nat} (hf : ∀ i, i < j → p_fig T n (q + i)) (h2 : 2 < j) : p_n2 T n q = none := by
  unfold p_n2 p_nm
  rw [if_pos (hf 1 (by omega)), if_pos (hf 2 (by omega))]

set_option maxRecDepth 100000 in
set_option maxHeartbeats 4000000 in
theorem c_wants1 (L : Nat) (b : Bool) (h : Hp) (f : Int32) : EvU mi_X10_wants [.ref 63, .int 1, .int f] (G0 L b) h (h) := by
  refine EvU.of (lo := [some (.ref 63), some (.int 1), some (.int f)]) pf_X10_wants ok_X10_wants rfl rfl ?_
  refine ev_iload_n rfl rfl rfl ?_
  refine ev_if_ne rfl rfl (fun c_1 => ?_) (fun z_ => absurd z_ (by decide))
  exact ev_vret rfl rfl trivial (⟨rfl, rfl, rfl⟩)

set_option maxRecDepth 100000 in
set_option maxHeartbeats 4000000 in
theorem w_nx185 (L : Nat) (b : Bool) (h h1 : Hp) (T : Nat → Int32) (n q j : Nat) (cI : Int32) (hn : n ≤ 160) (hq : q + j ≤ n) (hJ : JW [(63, 17), (63, 18), (63, 19), (63, 20), (63, 21), (63, 22)] h h1) (e1 : h1 63 16 = nI n) (eT : ∀ j, h1 72 j = T j) (e17 : h1 63 17 = nI (q + j)) (e18 : h1 63 18 = nI q) (e19 : h1 63 19 = 2) (e20 : h1 63 20 = p_vv T q j) (e21 : h1 63 21 = 0) (hf : ∀ i, i < j → p_fig T n (q + i)) (hno : ¬ p_fig T n (q + j)) (h1j : 1 ≤ j) : EvQ mi_X10_next 185 [some (.ref 63), some (.int cI)] [] (G0 L b) h1 0 0 (QK (MTK (p_n2 T n q)) [(63, 17), (63, 18), (63, 19), (63, 20), (63, 21), (63, 22)] (G0 L b) h) := by
  refine ev_aload_n rfl rfl rfl ?_
  refine ev_aload_n rfl rfl rfl ?_
  refine ev_getI rfl rfl fl_X10_210 rfl rfl rfl ?_
  try simp (disch := decide) only [e17, e18]
  refine ev_aload_n rfl rfl rfl ?_
  refine ev_getI rfl rfl fl_X10_197 rfl rfl rfl ?_
  try simp (disch := decide) only [e17, e18]
  refine ev_isub rfl rfl ?_
  rw [show nI (q + j) - nI q = nI j from (nI_sub2 (by omega) (by omega)).trans (congrArg nI (by omega))]
  refine ev_iconst (v := 2) rfl rfl (by decide) ?_
  refine ev_icmp_gt rfl rfl (fun c_196 => ?_) (fun c_196 => ?_)
  · refine ev_iconst (v := 0) rfl rfl (by decide) ?_
    refine ev_iconst (v := 1) rfl rfl (by decide) ?_
    refine ev_V2U rfl rfl lk_X10_230 vt_X10_wants rfl rfl rfl rfl rfl (m_wants L b _ e21 _) ?_
    refine ev_goto rfl rfl ?_
    exact ev_vret rfl rfl trivial (⟨rfl, rfl, (hJ.set rfl (by decide)).set rfl (B.any _), by rw [mt_nm2 hf (show 2 < j from (nI_lt2 (a := 2) (b := j) (by decide) (by omega)).mp c_196)]; show ¬ _ = _; simp (disch := decide) only [ev_rd1, ev_rd2, ev_rd3]; decide⟩)
  · refine ev_iconst (v := 1) rfl rfl (by decide) ?_
    refine ev_goto rfl rfl ?_
    refine ev_iconst (v := 1) rfl rfl (by decide) ?_
    refine ev_V2U rfl rfl lk_X10_230 vt_X10_wants rfl rfl rfl rfl rfl (c_wants1 L b _ _) ?_
    refine ev_goto rfl rfl ?_
    exact ev_vret rfl rfl trivial (⟨rfl, rfl, hJ, mt_nm1 hf hno h1j (show j ≤ 2 from nI_xlt (a := 2) c_196 (by decide) (by omega)) e21 e17 e19 e20⟩)

set_option maxRecDepth 100000 in
set_option maxHeartbeats 4000000 in
theorem l_mnum (L : Nat) (b : Bool) (h : Hp) (T : Nat → Int32) (n q : Nat) (cI : Int32) (hn : n ≤ 160) (hf0 : p_fig T n (q + 0)) : ∀ (k j : Nat) (h1 : Hp), n ≤ q + j + k → q + j ≤ n → JW [(63, 17), (63, 18), (63, 19), (63, 20), (63, 21), (63, 22)] h h1 → h1 63 16 = nI n → (∀ j, h1 72 j = T j) → h1 63 17 = nI (q + j) → h1 63 18 = nI q → h1 63 19 = 2 → h1 63 20 = p_vv T q j → h1 63 21 = 0 → (∀ i, i < j → p_fig T n (q + i)) → EvQ mi_X10_next 108 [some (.ref 63), some (.int cI)] [] (G0 L b) h1 0 0 (QK (MTK (p_n2 T n q)) [(63, 17), (63, 18), (63, 19), (63, 20), (63, 21), (63, 22)] (G0 L b) h) := by
  intro k
  induction k with
  | zero =>
    intro j h1 hk hqj hJ e1 eT e17 e18 e19 e20 e21 hf
    refine ev_aload_n rfl rfl rfl ?_
    refine ev_aload_n rfl rfl rfl ?_
    refine ev_getI rfl rfl fl_X10_210 rfl rfl rfl ?_
    try simp (disch := decide) only [ev_rd1, ev_rd2, ev_rd3, e17, e18, e20]
    refine ev_V1D rfl rfl lk_X10_213 vt_X10_look rfl rfl rfl rfl rfl (c_look L b _ T n (q + j) hn (by omega) (by first | exact e1 | (simp (disch := decide) only [ev_rd1, ev_rd2, ev_rd3]; exact e1)) (fun j => by first | exact eT j | (simp (disch := decide) only [ev_rd1, ev_rd2, ev_rd3]; exact eT j))) ?_
    refine ev_i2l rfl rfl ?_
    refine ev_ldc2 rfl rfl kc_X10_226 ?_
    refine ev_ldc2 rfl rfl kc_X10_228 ?_
    refine ev_S3D rfl rfl lk_X10_124 st_X10_in rfl rfl (c_inw _ _ _ 48 57 (by decide) (by decide)) ?_
    rw [lk_fig]
    refine ev_if_eq rfl rfl (fun c_126 => ?_) (fun c_126 => ?_)
    · have hno : ¬ p_fig T n (q + j) := if01 c_126
      have h1j : 1 ≤ j := by
        rcases Nat.eq_zero_or_pos j with z_ | z_
        · subst z_
          exact absurd hf0 hno
        · exact z_
      exact w_nx185 L b h h1 T n q j cI hn hqj hJ e1 eT e17 e18 e19 e20 e21 hf hno h1j
    · have hfj : p_fig T n (q + j) := if01n c_126
      have hjn := hfj.1
      have elk : p_lk T n (q + j) = T (q + j) := if_pos hjn
      refine ev_aload_n rfl rfl rfl ?_
      refine ev_aload_n rfl rfl rfl ?_
      refine ev_getI rfl rfl fl_X10_210 rfl rfl rfl ?_
      try simp (disch := decide) only [ev_rd1, ev_rd2, ev_rd3, e17, e18, e20]
      refine ev_aload_n rfl rfl rfl ?_
      refine ev_getI rfl rfl fl_X10_197 rfl rfl rfl ?_
      try simp (disch := decide) only [ev_rd1, ev_rd2, ev_rd3, e17, e18, e20]
      refine ev_isub rfl rfl ?_
      rw [show nI (q + j) - nI q = nI j from (nI_sub2 (by omega) (by omega)).trans (congrArg nI (by omega))]
      refine ev_iconst (v := 2) rfl rfl (by decide) ?_
      refine ev_icmp_ge rfl rfl (fun c_140 => ?_) (fun c_140 => ?_)
      · refine ev_aload_n rfl rfl rfl ?_
        refine ev_getI rfl rfl fl_X10_207 rfl rfl rfl ?_
        try simp (disch := decide) only [ev_rd1, ev_rd2, ev_rd3, e17, e18, e20]
        refine ev_putI rfl rfl fl_X10_207 rfl rfl rfl rfl rfl ?_
        refine ev_aload_n rfl rfl rfl ?_
        refine ev_dup rfl rfl rfl ?_
        refine ev_getI rfl rfl fl_X10_210 rfl rfl rfl ?_
        try simp (disch := decide) only [ev_rd1, ev_rd2, ev_rd3, e17, e18, e20]
        refine ev_iconst (v := 1) rfl rfl (by decide) ?_
        refine ev_iadd rfl rfl ?_
        refine ev_putI rfl rfl fl_X10_210 rfl rfl rfl rfl rfl ?_
        refine ev_goto rfl rfl ?_
        exact absurd hjn (by omega)
      · refine ev_bipush (v := 10) rfl rfl (by decide) ?_
        refine ev_aload_n rfl rfl rfl ?_
        refine ev_getI rfl rfl fl_X10_207 rfl rfl rfl ?_
        try simp (disch := decide) only [ev_rd1, ev_rd2, ev_rd3, e17, e18, e20]
        refine ev_imul rfl rfl ?_
        refine ev_aload_n rfl rfl rfl ?_
        refine ev_aload_n rfl rfl rfl ?_
        refine ev_getI rfl rfl fl_X10_210 rfl rfl rfl ?_
        try simp (disch := decide) only [ev_rd1, ev_rd2, ev_rd3, e17, e18, e20]
        refine ev_V1D rfl rfl lk_X10_213 vt_X10_look rfl rfl rfl rfl rfl (c_look L b _ T n (q + j) hn (by omega) (by first | exact e1 | (simp (disch := decide) only [ev_rd1, ev_rd2, ev_rd3]; exact e1)) (fun j => by first | exact eT j | (simp (disch := decide) only [ev_rd1, ev_rd2, ev_rd3]; exact eT j))) ?_
        rw [elk]
        refine ev_iadd rfl rfl ?_
        refine ev_bipush (v := 48) rfl rfl (by decide) ?_
        refine ev_isub rfl rfl ?_
        refine ev_goto rfl rfl ?_
        refine ev_putI rfl rfl fl_X10_207 rfl rfl rfl rfl rfl ?_
        refine ev_aload_n rfl rfl rfl ?_
        refine ev_dup rfl rfl rfl ?_
        refine ev_getI rfl rfl fl_X10_210 rfl rfl rfl ?_
        try simp (disch := decide) only [ev_rd1, ev_rd2, ev_rd3, e17, e18, e20]
        refine ev_iconst (v := 1) rfl rfl (by decide) ?_
        refine ev_iadd rfl rfl ?_
        refine ev_putI rfl rfl fl_X10_210 rfl rfl rfl rfl rfl ?_
        refine ev_goto rfl rfl ?_
        exact absurd hjn (by omega)
  | succ k ih =>
    intro j h1 hk hqj hJ e1 eT e17 e18 e19 e20 e21 hf
    refine ev_aload_n rfl rfl rfl ?_
    refine ev_aload_n rfl rfl rfl ?_
    refine ev_getI rfl rfl fl_X10_210 rfl rfl rfl ?_
    try simp (disch := decide) only [ev_rd1, ev_rd2, ev_rd3, e17, e18, e20]
    refine ev_V1D rfl rfl lk_X10_213 vt_X10_look rfl rfl rfl rfl rfl (c_look L b _ T n (q + j) hn (by omega) (by first | exact e1 | (simp (disch := decide) only [ev_rd1, ev_rd2, ev_rd3]; exact e1)) (fun j => by first | exact eT j | (simp (disch := decide) only [ev_rd1, ev_rd2, ev_rd3]; exact eT j))) ?_
    refine ev_i2l rfl rfl ?_
    refine ev_ldc2 rfl rfl kc_X10_226 ?_
    refine ev_ldc2 rfl rfl kc_X10_228 ?_
    refine ev_S3D rfl rfl lk_X10_124 st_X10_in rfl rfl (c_inw _ _ _ 48 57 (by decide) (by decide)) ?_
    rw [lk_fig]
    refine ev_if_eq rfl rfl (fun c_126 => ?_) (fun c_126 => ?_)
    · have hno : ¬ p_fig T n (q + j) := if01 c_126
      have h1j : 1 ≤ j := by
        rcases Nat.eq_zero_or_pos j with z_ | z_
        · subst z_
          exact absurd hf0 hno
        · exact z_
      exact w_nx185 L b h h1 T n q j cI hn hqj hJ e1 eT e17 e18 e19 e20 e21 hf hno h1j
    · have hfj : p_fig T n (q + j) := if01n c_126
      have hjn := hfj.1
      have elk : p_lk T n (q + j) = T (q + j) := if_pos hjn
      refine ev_aload_n rfl rfl rfl ?_
      refine ev_aload_n rfl rfl rfl ?_
      refine ev_getI rfl rfl fl_X10_210 rfl rfl rfl ?_
      try simp (disch := decide) only [ev_rd1, ev_rd2, ev_rd3, e17, e18, e20]
      refine ev_aload_n rfl rfl rfl ?_
      refine ev_getI rfl rfl fl_X10_197 rfl rfl rfl ?_
      try simp (disch := decide) only [ev_rd1, ev_rd2, ev_rd3, e17, e18, e20]
      refine ev_isub rfl rfl ?_
      rw [show nI (q + j) - nI q = nI j from (nI_sub2 (by omega) (by omega)).trans (congrArg nI (by omega))]
      refine ev_iconst (v := 2) rfl rfl (by decide) ?_
      refine ev_icmp_ge rfl rfl (fun c_140 => ?_) (fun c_140 => ?_)
      · refine ev_aload_n rfl rfl rfl ?_
        refine ev_getI rfl rfl fl_X10_207 rfl rfl rfl ?_
        try simp (disch := decide) only [ev_rd1, ev_rd2, ev_rd3, e17, e18, e20]
        refine ev_putI rfl rfl fl_X10_207 rfl rfl rfl rfl rfl ?_
        refine ev_aload_n rfl rfl rfl ?_
        refine ev_dup rfl rfl rfl ?_
        refine ev_getI rfl rfl fl_X10_210 rfl rfl rfl ?_
        try simp (disch := decide) only [ev_rd1, ev_rd2, ev_rd3, e17, e18, e20]
        refine ev_iconst (v := 1) rfl rfl (by decide) ?_
        refine ev_iadd rfl rfl ?_
        refine ev_putI rfl rfl fl_X10_210 rfl rfl rfl rfl rfl ?_
        refine ev_goto rfl rfl ?_
        have h2j : 2 ≤ j := (nI_le2 (a := 2) (b := j) (by decide) (by omega)).mp c_140
        have ev : p_vv T q j = p_vv T q (j + 1) := by
          rcases (show ∃ i, j = i + 2 from ⟨j - 2, by omega⟩) with ⟨i, rfl⟩
          rfl
        rw [ev, show nI (q + j) + 1 = nI (q + (j + 1)) from nI_1 (q + j)]
        exact ih (j + 1) _ (by omega) (by omega) ((hJ.set rfl (B.any _)).set rfl (nI_160 (by omega))) (by simp (disch := decide) only [ev_rd1, ev_rd2, ev_rd3]; exact e1) (fun j => by simp (disch := decide) only [ev_rd1, ev_rd2, ev_rd3]; exact eT j) (by simp (disch := decide) only [ev_rd1, ev_rd2, ev_rd3]) (by simp (disch := decide) only [ev_rd1, ev_rd2, ev_rd3]; exact e18) (by simp (disch := decide) only [ev_rd1, ev_rd2, ev_rd3]; exact e19) (by simp (disch := decide) only [ev_rd1, ev_rd2, ev_rd3]) (by simp (disch := decide) only [ev_rd1, ev_rd2, ev_rd3]; exact e21) (fun i hi => by
          by_cases z_ : i = j
          · rw [z_]; exact hfj
          · exact hf i (by omega))
      · refine ev_bipush (v := 10) rfl rfl (by decide) ?_
        refine ev_aload_n rfl rfl rfl ?_
        refine ev_getI rfl rfl fl_X10_207 rfl rfl rfl ?_
        try simp (disch := decide) only [ev_rd1, ev_rd2, ev_rd3, e17, e18, e20]
        refine ev_imul rfl rfl ?_
        refine ev_aload_n rfl rfl rfl ?_
        refine ev_aload_n rfl rfl rfl ?_
        refine ev_getI rfl rfl fl_X10_210 rfl rfl rfl ?_
        try simp (disch := decide) only [ev_rd1, ev_rd2, ev_rd3, e17, e18, e20]
        refine ev_V1D rfl rfl lk_X10_213 vt_X10_look rfl rfl rfl rfl rfl (c_look L b _ T n (q + j) hn (by omega) (by first | exact e1 | (simp (disch := decide) only [ev_rd1, ev_rd2, ev_rd3]; exact e1)) (fun j => by first | exact eT j | (simp (disch := decide) only [ev_rd1, ev_rd2, ev_rd3]; exact eT j))) ?_
        rw [elk]
        refine ev_iadd rfl rfl ?_
        refine ev_bipush (v := 48) rfl rfl (by decide) ?_
        refine ev_isub rfl rfl ?_
        refine ev_goto rfl rfl ?_
        refine ev_putI rfl rfl fl_X10_207 rfl rfl rfl rfl rfl ?_
        refine ev_aload_n rfl rfl rfl ?_
        refine ev_dup rfl rfl rfl ?_
        refine ev_getI rfl rfl fl_X10_210 rfl rfl rfl ?_
        try simp (disch := decide) only [ev_rd1, ev_rd2, ev_rd3, e17, e18, e20]
        refine ev_iconst (v := 1) rfl rfl (by decide) ?_
        refine ev_iadd rfl rfl ?_
        refine ev_putI rfl rfl fl_X10_210 rfl rfl rfl rfl rfl ?_
        refine ev_goto rfl rfl ?_
        have h2j : j < 2 := nI_xle (a := 2) c_140 (by decide) (by omega)
        have ev : 10 * p_vv T q j + T (q + j) - 48 = p_vv T q (j + 1) := by
          rcases (show j = 0 ∨ j = 1 by omega) with rfl | rfl
          · rw [Int32.mul_comm]; rfl
          · rw [Int32.mul_comm]; rfl
        rw [ev, show nI (q + j) + 1 = nI (q + (j + 1)) from nI_1 (q + j)]
        exact ih (j + 1) _ (by omega) (by omega) ((hJ.set rfl (B.any _)).set rfl (nI_160 (by omega))) (by simp (disch := decide) only [ev_rd1, ev_rd2, ev_rd3]; exact e1) (fun j => by simp (disch := decide) only [ev_rd1, ev_rd2, ev_rd3]; exact eT j) (by simp (disch := decide) only [ev_rd1, ev_rd2, ev_rd3]) (by simp (disch := decide) only [ev_rd1, ev_rd2, ev_rd3]; exact e18) (by simp (disch := decide) only [ev_rd1, ev_rd2, ev_rd3]; exact e19) (by simp (disch := decide) only [ev_rd1, ev_rd2, ev_rd3]) (by simp (disch := decide) only [ev_rd1, ev_rd2, ev_rd3]; exact e21) (fun i hi => by
          by_cases z_ : i = j
          · rw [z_]; exact hfj
          · exact hf i (by omega))

theorem mt_ch {T : Nat → Int32} {n p : Nat} {z : Hp} (h0 : ¬ n ≤ p) (h1 : p_let T n p) (hz : MCH (p_ch T n 6 p 0 0) z) : MTK (p_at T n p) z := by
  unfold p_at
  rw [if_neg h0, if_pos h1]
  cases e : p_ch T n 6 p 0 0 with
  | none => rw [e] at hz; exact hz
  | some x =>
    rw [e] at hz
    obtain ⟨a1, a2, a3, a4⟩ := hz
    exact ⟨a1, a4, fun z => absurd z (by decide), fun _ => ⟨a2, a3⟩, fun z => absurd z (by decide), fun z => absurd z (by decide), fun z => absurd z (by decide), fun z => absurd z (by decide)⟩
theorem at_n2 {T : Nat → Int32} {n p : Nat} (h0 : ¬ n ≤ p) (h1 : ¬ p_let T n p) (h2 : p_fig T n p) : p_at T n p = p_n2 T n p := by
  unfold p_at p_n2
  rw [if_neg h0, if_neg h1, if_pos h2]
  cases p_nm T n p <;> rfl
theorem at_sg {T : Nat → Int32} {n p : Nat} (h0 : ¬ n ≤ p) (h1 : ¬ p_let T n p) (h2 : ¬ p_fig T n p) : p_at T n p = p_sg T p := by
  unfold p_at p_sg
  rw [if_neg h0, if_neg h1, if_neg h2]

theorem lk_nn {T : Nat → Int32} {n p : Nat} (h : B (T p) 0 255) : (0 ≤ p_lk T n p ↔ p < n) := by
  unfold p_lk
  by_cases q : p < n
  · rw [if_pos q]
    have e0 : (0 : Int32).toInt = 0 := by decide
    exact ⟨fun _ => q, fun _ => Int32.le_iff_toInt_le.mpr (by have := h.1; omega)⟩
  · rw [if_neg q]
    exact ⟨fun z => absurd z (by decide), fun z => absurd z q⟩

set_option maxRecDepth 100000 in
set_option maxHeartbeats 4000000 in
theorem w_nx34 (L : Nat) (b : Bool) (h h1 : Hp) (T : Nat → Int32) (n p : Nat) (hn : n ≤ 160) (hp : p ≤ n) (hJ : JW [(63, 17), (63, 18), (63, 19), (63, 20), (63, 21), (63, 22)] h h1) (e1 : h1 63 16 = nI n) (eT : ∀ j, h1 72 j = T j) (e17 : h1 63 17 = nI p) (e21 : h1 63 21 = 0) : EvQ mi_X10_next 34 [some (.ref 63), none] [] (G0 L b) h1 0 0 (QK (MTK (p_at T n p)) [(63, 17), (63, 18), (63, 19), (63, 20), (63, 21), (63, 22)] (G0 L b) h) := by
  have hTp : B (T p) 0 255 := by rw [← eT p]; exact hJ.1 72 p
  refine ev_aload_n rfl rfl rfl ?_
  refine ev_aload_n rfl rfl rfl ?_
  refine ev_getI rfl rfl fl_X10_210 rfl rfl rfl ?_
  try simp (disch := decide) only [ev_rd1, ev_rd2, ev_rd3, e17]
  refine ev_putI rfl rfl fl_X10_197 rfl rfl rfl rfl rfl ?_
  refine ev_aload_n rfl rfl rfl ?_
  refine ev_aload_n rfl rfl rfl ?_
  refine ev_getI rfl rfl fl_X10_210 rfl rfl rfl ?_
  try simp (disch := decide) only [ev_rd1, ev_rd2, ev_rd3, e17]
  refine ev_V1D rfl rfl lk_X10_213 vt_X10_look rfl rfl rfl rfl rfl (c_look L b _ T n p hn (by omega) (by first | exact e1 | (simp (disch := decide) only [ev_rd1, ev_rd2, ev_rd3]; exact e1)) (fun j => by first | exact eT j | (simp (disch := decide) only [ev_rd1, ev_rd2, ev_rd3]; exact eT j))) ?_
  refine ev_istore_n rfl rfl rfl rfl ?_
  dsimp only [List.set]
  refine ev_iload_n rfl rfl rfl ?_
  refine ev_if_ge rfl rfl (fun c_52 => ?_) (fun c_52 => ?_)
  · have hpn : p < n := (lk_nn hTp).mp c_52
    have elk : p_lk T n p = T p := if_pos hpn
    refine ev_iload_n rfl rfl rfl ?_
    refine ev_i2l rfl rfl ?_
    refine ev_ldc2 rfl rfl kc_X10_216 ?_
    refine ev_ldc2 rfl rfl kc_X10_218 ?_
    refine ev_S3D rfl rfl lk_X10_124 st_X10_in rfl rfl (c_inw _ _ _ 97 122 (by decide) (by decide)) ?_
    rw [lk_let]
    refine ev_if_eq rfl rfl (fun c_74 => ?_) (fun c_74 => ?_)
    · refine ev_iload_n rfl rfl rfl ?_
      refine ev_i2l rfl rfl ?_
      refine ev_ldc2 rfl rfl kc_X10_226 ?_
      refine ev_ldc2 rfl rfl kc_X10_228 ?_
      refine ev_S3D rfl rfl lk_X10_124 st_X10_in rfl rfl (c_inw _ _ _ 48 57 (by decide) (by decide)) ?_
      rw [lk_fig]
      refine ev_if_eq rfl rfl (fun c_95 => ?_) (fun c_95 => ?_)
      · rw [elk]
        refine ev_aload_n rfl rfl rfl ?_
        refine ev_iconst (v := 3) rfl rfl (by decide) ?_
        refine ev_putI rfl rfl fl_X10_204 rfl rfl rfl rfl rfl ?_
        refine ev_aload_n rfl rfl rfl ?_
        refine ev_iload_n rfl rfl rfl ?_
        refine ev_putI rfl rfl fl_X10_207 rfl rfl rfl rfl rfl ?_
        refine ev_aload_n rfl rfl rfl ?_
        refine ev_iload_n rfl rfl rfl ?_
        refine ev_bipush (v := 40) rfl rfl (by decide) ?_
        refine ev_icmp_eq rfl rfl (fun c_225 => ?_) (fun c_225 => ?_)
        · refine ev_iconst (v := 1) rfl rfl (by decide) ?_
          refine ev_goto rfl rfl ?_
          refine ev_iconst (v := 1) rfl rfl (by decide) ?_
          refine ev_V2U rfl rfl lk_X10_230 vt_X10_wants rfl rfl rfl rfl rfl (c_wants1 L b _ _) ?_
          refine ev_aload_n rfl rfl rfl ?_
          refine ev_dup rfl rfl rfl ?_
          refine ev_getI rfl rfl fl_X10_210 rfl rfl rfl ?_
          try simp (disch := decide) only [ev_rd1, ev_rd2, ev_rd3, e17]
          refine ev_iconst (v := 1) rfl rfl (by decide) ?_
          refine ev_iadd rfl rfl ?_
          refine ev_putI rfl rfl fl_X10_210 rfl rfl rfl rfl rfl ?_
          rw [nI_1 p]
          exact ev_vret rfl rfl trivial (⟨rfl, rfl, ((((hJ.set rfl (B.any _)).set rfl (by decide)).set rfl (B.any _)).set rfl (nI_160 (by omega))), by rw [at_sg (by omega) (if01 c_74) (if01 c_95)]; unfold p_sg; rw [if_neg (by rw [c_225]; decide), if_pos c_225]; exact ⟨by simp (disch := decide) only [ev_rd1, ev_rd2, ev_rd3]; exact e21, by simp (disch := decide) only [ev_rd1, ev_rd2, ev_rd3], fun z => absurd z (by decide), fun z => absurd z (by decide), fun z => absurd z (by decide), fun z => absurd z (by decide), fun _ => ⟨by simp (disch := decide) only [ev_rd1, ev_rd2, ev_rd3], by simp (disch := decide) only [ev_rd1, ev_rd2, ev_rd3]; exact c_225⟩, fun z => absurd z (by decide)⟩⟩)
        · refine ev_iload_n rfl rfl rfl ?_
          refine ev_bipush (v := 41) rfl rfl (by decide) ?_
          refine ev_icmp_eq rfl rfl (fun c_231 => ?_) (fun c_231 => ?_)
          · refine ev_iconst (v := 1) rfl rfl (by decide) ?_
            refine ev_goto rfl rfl ?_
            refine ev_iconst (v := 1) rfl rfl (by decide) ?_
            refine ev_V2U rfl rfl lk_X10_230 vt_X10_wants rfl rfl rfl rfl rfl (c_wants1 L b _ _) ?_
            refine ev_aload_n rfl rfl rfl ?_
            refine ev_dup rfl rfl rfl ?_
            refine ev_getI rfl rfl fl_X10_210 rfl rfl rfl ?_
            try simp (disch := decide) only [ev_rd1, ev_rd2, ev_rd3, e17]
            refine ev_iconst (v := 1) rfl rfl (by decide) ?_
            refine ev_iadd rfl rfl ?_
            refine ev_putI rfl rfl fl_X10_210 rfl rfl rfl rfl rfl ?_
            rw [nI_1 p]
            exact ev_vret rfl rfl trivial (⟨rfl, rfl, ((((hJ.set rfl (B.any _)).set rfl (by decide)).set rfl (B.any _)).set rfl (nI_160 (by omega))), by rw [at_sg (by omega) (if01 c_74) (if01 c_95)]; unfold p_sg; rw [if_neg (by rw [c_231]; decide), if_neg c_225, if_pos c_231]; exact ⟨by simp (disch := decide) only [ev_rd1, ev_rd2, ev_rd3]; exact e21, by simp (disch := decide) only [ev_rd1, ev_rd2, ev_rd3], fun z => absurd z (by decide), fun z => absurd z (by decide), fun z => absurd z (by decide), fun z => absurd z (by decide), fun z => absurd z (by decide), fun _ => ⟨by simp (disch := decide) only [ev_rd1, ev_rd2, ev_rd3], by simp (disch := decide) only [ev_rd1, ev_rd2, ev_rd3]; exact c_231⟩⟩⟩)
          · refine ev_iload_n rfl rfl rfl ?_
            refine ev_bipush (v := 46) rfl rfl (by decide) ?_
            refine ev_icmp_ne rfl rfl (fun c_237 => ?_) (fun c_237 => ?_)
            · refine ev_iconst (v := 0) rfl rfl (by decide) ?_
              refine ev_iconst (v := 1) rfl rfl (by decide) ?_
              refine ev_V2U rfl rfl lk_X10_230 vt_X10_wants rfl rfl rfl rfl rfl (m_wants L b _ (by simp (disch := decide) only [ev_rd1, ev_rd2, ev_rd3]; exact e21) _) ?_
              refine ev_aload_n rfl rfl rfl ?_
              refine ev_dup rfl rfl rfl ?_
              refine ev_getI rfl rfl fl_X10_210 rfl rfl rfl ?_
              try simp (disch := decide) only [ev_rd1, ev_rd2, ev_rd3, e17]
              refine ev_iconst (v := 1) rfl rfl (by decide) ?_
              refine ev_iadd rfl rfl ?_
              refine ev_putI rfl rfl fl_X10_210 rfl rfl rfl rfl rfl ?_
              rw [nI_1 p]
              exact ev_vret rfl rfl trivial (⟨rfl, rfl, ((((((hJ.set rfl (B.any _)).set rfl (by decide)).set rfl (B.any _)).set rfl (by decide)).set rfl (B.any _)).set rfl (nI_160 (by omega))), by rw [at_sg (by omega) (if01 c_74) (if01 c_95)]; unfold p_sg; rw [if_neg c_237, if_neg c_225, if_neg c_231]; show ¬ _ = _; simp (disch := decide) only [ev_rd1, ev_rd2, ev_rd3]; decide⟩)
            · refine ev_iconst (v := 1) rfl rfl (by decide) ?_
              refine ev_goto rfl rfl ?_
              refine ev_iconst (v := 1) rfl rfl (by decide) ?_
              refine ev_V2U rfl rfl lk_X10_230 vt_X10_wants rfl rfl rfl rfl rfl (c_wants1 L b _ _) ?_
              refine ev_aload_n rfl rfl rfl ?_
              refine ev_dup rfl rfl rfl ?_
              refine ev_getI rfl rfl fl_X10_210 rfl rfl rfl ?_
              try simp (disch := decide) only [ev_rd1, ev_rd2, ev_rd3, e17]
              refine ev_iconst (v := 1) rfl rfl (by decide) ?_
              refine ev_iadd rfl rfl ?_
              refine ev_putI rfl rfl fl_X10_210 rfl rfl rfl rfl rfl ?_
              rw [nI_1 p]
              exact ev_vret rfl rfl trivial (⟨rfl, rfl, ((((hJ.set rfl (B.any _)).set rfl (by decide)).set rfl (B.any _)).set rfl (nI_160 (by omega))), by rw [at_sg (by omega) (if01 c_74) (if01 c_95)]; unfold p_sg; rw [if_pos c_237]; exact ⟨by simp (disch := decide) only [ev_rd1, ev_rd2, ev_rd3]; exact e21, by simp (disch := decide) only [ev_rd1, ev_rd2, ev_rd3], fun z => absurd z (by decide), fun z => absurd z (by decide), fun z => absurd z (by decide), fun _ => ⟨by simp (disch := decide) only [ev_rd1, ev_rd2, ev_rd3], by simp (disch := decide) only [ev_rd1, ev_rd2, ev_rd3]; exact c_237⟩, fun z => absurd z (by decide), fun z => absurd z (by decide)⟩⟩)
      · refine ev_aload_n rfl rfl rfl ?_
        refine ev_iconst (v := 2) rfl rfl (by decide) ?_
        refine ev_putI rfl rfl fl_X10_204 rfl rfl rfl rfl rfl ?_
        refine ev_aload_n rfl rfl rfl ?_
        refine ev_iconst (v := 0) rfl rfl (by decide) ?_
        refine ev_putI rfl rfl fl_X10_207 rfl rfl rfl rfl rfl ?_
        rw [at_n2 (by omega) (if01 c_74) (if01n c_95)]
        exact l_mnum L b h T n p _ hn (if01n c_95) n 0 _ (by omega) (by omega) (((hJ.set rfl (B.any _)).set rfl (by decide)).set rfl (B.any _)) (by simp (disch := decide) only [ev_rd1, ev_rd2, ev_rd3]; exact e1) (fun j => by simp (disch := decide) only [ev_rd1, ev_rd2, ev_rd3]; exact eT j) (by simp (disch := decide) only [ev_rd1, ev_rd2, ev_rd3]; exact e17) (by simp (disch := decide) only [ev_rd1, ev_rd2, ev_rd3]) (by simp (disch := decide) only [ev_rd1, ev_rd2, ev_rd3]) (by simp (disch := decide) only [ev_rd1, ev_rd2, ev_rd3]; rfl) (by simp (disch := decide) only [ev_rd1, ev_rd2, ev_rd3]; exact e21) (fun i hi => absurd hi (by omega))
    · refine ev_aload_n rfl rfl rfl ?_
      refine ev_V0K (hJ.set rfl (B.any _)) rfl rfl rfl lk_X10_223 vt_X10_readChord rfl rfl rfl rfl rfl (w_readChordM L b _ (hJ.set rfl (B.any _)).1 T n p hn hp (by simp (disch := decide) only [ev_rd1, ev_rd2, ev_rd3]; exact e1) (fun j => by simp (disch := decide) only [ev_rd1, ev_rd2, ev_rd3]; exact eT j) (by simp (disch := decide) only [ev_rd1, ev_rd2, ev_rd3]; exact e17) (by simp (disch := decide) only [ev_rd1, ev_rd2, ev_rd3]; exact e21)) (fun h2 j2 k2 m2 => ?_)
      refine ev_goto rfl rfl ?_
      exact ev_vret rfl rfl trivial (⟨rfl, rfl, j2, mt_ch (by omega) (if01n c_74) m2⟩)
  · have hnp : n ≤ p := Nat.le_of_not_lt (fun z_ => c_52 ((lk_nn hTp).mpr z_))
    refine ev_aload_n rfl rfl rfl ?_
    refine ev_iconst (v := 0) rfl rfl (by decide) ?_
    refine ev_putI rfl rfl fl_X10_204 rfl rfl rfl rfl rfl ?_
    refine ev_goto rfl rfl ?_
    exact ev_vret rfl rfl trivial (⟨rfl, rfl, (hJ.set rfl (B.any _)).set rfl (by decide), by unfold p_at; rw [if_pos hnp]; exact ⟨by simp (disch := decide) only [ev_rd1, ev_rd2, ev_rd3]; exact e21, by simp (disch := decide) only [ev_rd1, ev_rd2, ev_rd3]; exact e17, fun _ => by simp (disch := decide) only [ev_rd1, ev_rd2, ev_rd3], fun z => absurd z (by decide), fun z => absurd z (by decide), fun z => absurd z (by decide), fun z => absurd z (by decide), fun z => absurd z (by decide)⟩⟩)

set_option maxRecDepth 100000 in
set_option maxHeartbeats 4000000 in
theorem l_msp (L : Nat) (b : Bool) (h : Hp) (T : Nat → Int32) (n : Nat) (hn : n ≤ 160) : ∀ (k p : Nat) (h1 : Hp), n ≤ p + k → p ≤ n → JW [(63, 17), (63, 18), (63, 19), (63, 20), (63, 21), (63, 22)] h h1 → h1 63 16 = nI n → (∀ j, h1 72 j = T j) → h1 63 17 = nI p → h1 63 21 = 0 → EvQ mi_X10_next 8 [some (.ref 63), none] [] (G0 L b) h1 0 0 (QK (MTK (p_at T n (p_sp T n k p))) [(63, 17), (63, 18), (63, 19), (63, 20), (63, 21), (63, 22)] (G0 L b) h) := by
  intro k
  induction k with
  | zero =>
    intro p h1 hk hp hJ e1 eT e17 e21
    refine ev_aload_n rfl rfl rfl ?_
    refine ev_aload_n rfl rfl rfl ?_
    refine ev_getI rfl rfl fl_X10_210 rfl rfl rfl ?_
    try simp (disch := decide) only [ev_rd1, ev_rd2, ev_rd3, e17]
    refine ev_V1D rfl rfl lk_X10_213 vt_X10_look rfl rfl rfl rfl rfl (c_look L b _ T n p hn (by omega) (by first | exact e1 | (simp (disch := decide) only [ev_rd1, ev_rd2, ev_rd3]; exact e1)) (fun j => by first | exact eT j | (simp (disch := decide) only [ev_rd1, ev_rd2, ev_rd3]; exact eT j))) ?_
    refine ev_bipush (v := 32) rfl rfl (by decide) ?_
    refine ev_icmp_ne rfl rfl (fun c_18 => ?_) (fun c_18 => ?_)
    · have y_ : p_sp T n 0 p = p := by
        rfl
      rw [y_]
      exact w_nx34 L b h h1 T n p hn hp hJ e1 eT e17 e21
    · refine ev_aload_n rfl rfl rfl ?_
      refine ev_dup rfl rfl rfl ?_
      refine ev_getI rfl rfl fl_X10_210 rfl rfl rfl ?_
      try simp (disch := decide) only [ev_rd1, ev_rd2, ev_rd3, e17]
      refine ev_iconst (v := 1) rfl rfl (by decide) ?_
      refine ev_iadd rfl rfl ?_
      refine ev_putI rfl rfl fl_X10_210 rfl rfl rfl rfl rfl ?_
      refine ev_goto rfl rfl ?_
      have hpn : p < n := by
        rcases Nat.lt_or_ge p n with z_ | z_
        · exact z_
        · exact absurd c_18 (by rw [show p_lk T n p = -1 from if_neg (by omega)]; decide)
      have e32 : T p = 32 := by rw [← c_18]; exact (if_pos hpn).symm
      exact absurd hpn (by omega)
  | succ k ih =>
    intro p h1 hk hp hJ e1 eT e17 e21
    refine ev_aload_n rfl rfl rfl ?_
    refine ev_aload_n rfl rfl rfl ?_
    refine ev_getI rfl rfl fl_X10_210 rfl rfl rfl ?_
    try simp (disch := decide) only [ev_rd1, ev_rd2, ev_rd3, e17]
    refine ev_V1D rfl rfl lk_X10_213 vt_X10_look rfl rfl rfl rfl rfl (c_look L b _ T n p hn (by omega) (by first | exact e1 | (simp (disch := decide) only [ev_rd1, ev_rd2, ev_rd3]; exact e1)) (fun j => by first | exact eT j | (simp (disch := decide) only [ev_rd1, ev_rd2, ev_rd3]; exact eT j))) ?_
    refine ev_bipush (v := 32) rfl rfl (by decide) ?_
    refine ev_icmp_ne rfl rfl (fun c_18 => ?_) (fun c_18 => ?_)
    · have y_ : p_sp T n (k + 1) p = p := by
        unfold p_sp; exact if_neg (fun q_ => c_18 (by rw [show p_lk T n p = T p from if_pos q_.1]; exact q_.2))
      rw [y_]
      exact w_nx34 L b h h1 T n p hn hp hJ e1 eT e17 e21
    · refine ev_aload_n rfl rfl rfl ?_
      refine ev_dup rfl rfl rfl ?_
      refine ev_getI rfl rfl fl_X10_210 rfl rfl rfl ?_
      try simp (disch := decide) only [ev_rd1, ev_rd2, ev_rd3, e17]
      refine ev_iconst (v := 1) rfl rfl (by decide) ?_
      refine ev_iadd rfl rfl ?_
      refine ev_putI rfl rfl fl_X10_210 rfl rfl rfl rfl rfl ?_
      refine ev_goto rfl rfl ?_
      have hpn : p < n := by
        rcases Nat.lt_or_ge p n with z_ | z_
        · exact z_
        · exact absurd c_18 (by rw [show p_lk T n p = -1 from if_neg (by omega)]; decide)
      have e32 : T p = 32 := by rw [← c_18]; exact (if_pos hpn).symm
      have y_ : p_sp T n (k + 1) p = p_sp T n k (p + 1) := by
        conv => lhs; unfold p_sp
        exact if_pos ⟨hpn, e32⟩
      rw [y_, show nI p + 1 = nI (p + 1) from nI_1 p]
      exact ih (p + 1) _ (by omega) (by omega) (hJ.set rfl (nI_160 (by omega))) (by simp (disch := decide) only [ev_rd1, ev_rd2, ev_rd3]; exact e1) (fun j => by simp (disch := decide) only [ev_rd1, ev_rd2, ev_rd3]; exact eT j) (by simp (disch := decide) only [ev_rd1, ev_rd2, ev_rd3]) (by simp (disch := decide) only [ev_rd1, ev_rd2, ev_rd3]; exact e21)

set_option maxRecDepth 100000 in
set_option maxHeartbeats 4000000 in
theorem w_nextM (L : Nat) (b : Bool) (h : Hp) (hB : Bx h) (T : Nat → Int32) (n p : Nat) (hn : n ≤ 160) (hp : p ≤ n) (e1 : h 63 16 = nI n) (eT : ∀ j, h 72 j = T j) (e17 : h 63 17 = nI p) (e21 : h 63 21 = 0)  : EvK mi_X10_next [.ref 63] (G0 L b) h (MTK (p_tok T n p)) [(63, 17), (63, 18), (63, 19), (63, 20), (63, 21), (63, 22)] := by
  refine EvM.of2 (lo := [some (.ref 63), none]) pf_X10_next ok_X10_next rfl rfl ?_
  refine ev_aload_n rfl rfl rfl ?_
  refine ev_getI rfl rfl fl_X10_191 rfl rfl rfl ?_
  refine ev_if_le rfl rfl (fun c_4 => ?_) (fun z_ => absurd (by rw [e21]; exact Int32.le_refl _) z_)
  exact l_msp L b h T n hn n p h (by omega) hp (JW.refl hB) e1 eT e17 e21

set_option maxRecDepth 100000 in
set_option maxHeartbeats 4000000 in
theorem c_nextF (L : Nat) (b : Bool) (h : Hp) (hB : Bx h) (hf : ¬ h 63 21 = 0) : EvU mi_X10_next [.ref 63] (G0 L b) h (h) := by
  have b6 : B (h 63 21) 0 6 := hB 63 21
  refine EvU.of (lo := [some (.ref 63), none]) pf_X10_next ok_X10_next rfl rfl ?_
  refine ev_aload_n rfl rfl rfl ?_
  refine ev_getI rfl rfl fl_X10_191 rfl rfl rfl ?_
  refine ev_if_le rfl rfl (fun z_ => absurd z_ (fun z_ => absurd (R_leX b6 (by decide : B 0 0 0) z_ (by decide)) (fun y_ => hf (D_eq y_ (by decide))))) (fun c_4 => ?_)
  exact ev_vret rfl rfl trivial (⟨rfl, rfl, rfl⟩)

