def z_is (s v c : Int32) : Int32 := if s = 3 then (if v = c then 1 else 0) else 0

set_option maxRecDepth 100000 in
set_option maxHeartbeats 4000000 in
theorem c_isSign (L : Nat) (b : Bool) (h : Hp) (c : Int32) : EvD mi_X10_isSign [.ref 63, .int c] (G0 L b) h (z_is (h 63 19) (h 63 20) c) (h) := by
  refine EvD.of (lo := [some (.ref 63), some (.int c)]) pf_X10_isSign ok_X10_isSign rfl rfl ?_
  refine ev_aload_n rfl rfl rfl ?_
  refine ev_getI rfl rfl fl_X10_204 rfl rfl rfl ?_
  refine ev_iconst (v := 3) rfl rfl (by decide) ?_
  refine ev_icmp_ne rfl rfl (fun c_5 => ?_) (fun c_5 => ?_)
  · refine ev_iconst (v := 0) rfl rfl (by decide) ?_
    exact ev_iret rfl rfl rfl (⟨congrArg (fun z => some (Value.int z)) (by simp only [z_is, if_neg c_5]), rfl, rfl⟩)
  · refine ev_aload_n rfl rfl rfl ?_
    refine ev_getI rfl rfl fl_X10_207 rfl rfl rfl ?_
    refine ev_iload_n rfl rfl rfl ?_
    refine ev_icmp_ne rfl rfl (fun c_13 => ?_) (fun c_13 => ?_)
    · refine ev_iconst (v := 0) rfl rfl (by decide) ?_
      exact ev_iret rfl rfl rfl (⟨congrArg (fun z => some (Value.int z)) (by simp only [z_is, if_pos c_5, if_neg c_13]), rfl, rfl⟩)
    · refine ev_iconst (v := 1) rfl rfl (by decide) ?_
      refine ev_goto rfl rfl ?_
      exact ev_iret rfl rfl rfl (⟨congrArg (fun z => some (Value.int z)) (by simp only [z_is, if_pos c_5, if_pos c_13]), rfl, rfl⟩)

set_option maxRecDepth 100000 in
set_option maxHeartbeats 4000000 in
theorem c_wantsP (L : Nat) (b : Bool) (h : Hp) (g f : Int32) (hg : ¬ g = 0) : EvU mi_X10_wants [.ref 63, .int g, .int f] (G0 L b) h (h) := by
  refine EvU.of (lo := [some (.ref 63), some (.int g), some (.int f)]) pf_X10_wants ok_X10_wants rfl rfl ?_
  refine ev_iload_n rfl rfl rfl ?_
  refine ev_if_ne rfl rfl (fun c_1 => ?_) (fun z_ => absurd z_ hg)
  exact ev_vret rfl rfl trivial (⟨rfl, rfl, rfl⟩)

set_option maxRecDepth 100000 in
set_option maxHeartbeats 4000000 in
theorem c_wantsF (L : Nat) (b : Bool) (h : Hp) (g f : Int32) (hf : ¬ h 63 21 = 0) : EvU mi_X10_wants [.ref 63, .int g, .int f] (G0 L b) h (h) := by
  refine EvU.of (lo := [some (.ref 63), some (.int g), some (.int f)]) pf_X10_wants ok_X10_wants rfl rfl ?_
  refine ev_iload_n rfl rfl rfl ?_
  refine ev_if_ne rfl rfl (fun c_1 => ?_) (fun c_1 => ?_)
  · exact ev_vret rfl rfl trivial (⟨rfl, rfl, rfl⟩)
  · refine ev_aload_n rfl rfl rfl ?_
    refine ev_iload_n rfl rfl rfl ?_
    refine ev_aload_n rfl rfl rfl ?_
    refine ev_getI rfl rfl fl_X10_197 rfl rfl rfl ?_
    refine ev_V2U rfl rfl lk_X10_200 vt_X10_fails rfl rfl rfl rfl rfl (c_fails1 L b h hf _ _) ?_
    exact ev_vret rfl rfl trivial (⟨rfl, rfl, rfl⟩)

set_option maxRecDepth 100000 in
set_option maxHeartbeats 4000000 in
theorem l_rtX (L : Nat) (b : Bool) (h h1 : Hp) (R : Hp → Prop) (wI oI : Int32) (hJ : JW [(63, 17), (63, 18), (63, 19), (63, 20), (63, 21), (63, 22), (63, 27), (63, 28), (63, 31), (75, 999), (76, 999), (77, 999)] h h1) (hR : R h1) (hf : ¬ h1 63 21 = 0) : EvQ mi_X10_readTune 19 [some (.ref 63), some (.int wI), some (.int oI), none] [] (G0 L b) h1 0 0 (QK R [(63, 17), (63, 18), (63, 19), (63, 20), (63, 21), (63, 22), (63, 27), (63, 28), (63, 31), (75, 999), (76, 999), (77, 999)] (G0 L b) h) := by
  refine ev_iload_n rfl rfl rfl ?_
  refine ev_if_eq rfl rfl (fun c_20 => ?_) (fun c_20 => ?_)
  · refine ev_aload_n rfl rfl rfl ?_
    refine ev_getI rfl rfl fl_X10_191 rfl rfl rfl ?_
    refine ev_if_ne rfl rfl (fun c_256 => ?_) (fun z_ => absurd z_ hf)
    exact ev_vret rfl rfl trivial (⟨rfl, rfl, hJ, hR⟩)
  · refine ev_aload_n rfl rfl rfl ?_
    refine ev_getI rfl rfl fl_X10_191 rfl rfl rfl ?_
    refine ev_if_ne rfl rfl (fun c_27 => ?_) (fun z_ => absurd z_ hf)
    refine ev_aload_n rfl rfl rfl ?_
    refine ev_getI rfl rfl fl_X10_191 rfl rfl rfl ?_
    refine ev_if_ne rfl rfl (fun c_256 => ?_) (fun z_ => absurd z_ hf)
    exact ev_vret rfl rfl trivial (⟨rfl, rfl, hJ, hR⟩)

set_option maxRecDepth 100000 in
set_option maxHeartbeats 4000000 in
theorem l_rtE1 (L : Nat) (b : Bool) (h h1 : Hp) (R : Hp → Prop) (wI : Int32) (hJ : JW [(63, 17), (63, 18), (63, 19), (63, 20), (63, 21), (63, 22), (63, 27), (63, 28), (63, 31), (75, 999), (76, 999), (77, 999)] h h1) (q : Nat) (hq : q ≤ 60) (eq : h1 63 27 = nI q) (e21 : h1 63 21 = 0) (e28 : h1 63 28 = 0) (h24 : q ≤ 24) (hR : R h1) : EvQ mi_X10_readTune 19 [some (.ref 63), some (.int wI), some (.int 0), none] [] (G0 L b) h1 0 0 (QK R [(63, 17), (63, 18), (63, 19), (63, 20), (63, 21), (63, 22), (63, 27), (63, 28), (63, 31), (75, 999), (76, 999), (77, 999)] (G0 L b) h) := by
  refine ev_iload_n rfl rfl rfl ?_
  refine ev_if_eq rfl rfl (fun c_20 => ?_) (fun z_ => absurd (by decide) z_)
  refine ev_aload_n rfl rfl rfl ?_
  refine ev_getI rfl rfl fl_X10_191 rfl rfl rfl ?_
  try simp only [eq]
  refine ev_if_ne rfl rfl (fun z_ => absurd e21 z_) (fun c_256 => ?_)
  refine ev_aload_n rfl rfl rfl ?_
  refine ev_getI rfl rfl fl_X10_237 rfl rfl rfl ?_
  try simp only [eq]
  refine ev_if_ne rfl rfl (fun z_ => absurd e28 z_) (fun c_263 => ?_)
  refine ev_aload_n rfl rfl rfl ?_
  refine ev_getI rfl rfl fl_X10_234 rfl rfl rfl ?_
  try simp only [eq]
  refine ev_bipush (v := 24) rfl rfl (by decide) ?_
  refine ev_icmp_le rfl rfl (fun c_272 => ?_) (fun z_ => absurd ((nI_le2 (a := q) (b := 24) (by omega) (by decide)).mpr h24) z_)
  exact ev_vret rfl rfl trivial (⟨rfl, rfl, hJ, hR⟩)

set_option maxRecDepth 100000 in
set_option maxHeartbeats 4000000 in
theorem l_rtE2 (L : Nat) (b : Bool) (h h1 : Hp) (R : Hp → Prop) (wI : Int32) (hJ : JW [(63, 17), (63, 18), (63, 19), (63, 20), (63, 21), (63, 22), (63, 27), (63, 28), (63, 31), (75, 999), (76, 999), (77, 999)] h h1) (e21 : h1 63 21 = 0) (e28 : ¬ h1 63 28 = 0) (hR : ∀ z : Hp, ¬ z 63 21 = 0 → R z) : EvQ mi_X10_readTune 19 [some (.ref 63), some (.int wI), some (.int 0), none] [] (G0 L b) h1 0 0 (QK R [(63, 17), (63, 18), (63, 19), (63, 20), (63, 21), (63, 22), (63, 27), (63, 28), (63, 31), (75, 999), (76, 999), (77, 999)] (G0 L b) h) := by
  refine ev_iload_n rfl rfl rfl ?_
  refine ev_if_eq rfl rfl (fun c_20 => ?_) (fun z_ => absurd (by decide) z_)
  refine ev_aload_n rfl rfl rfl ?_
  refine ev_getI rfl rfl fl_X10_191 rfl rfl rfl ?_
  refine ev_if_ne rfl rfl (fun z_ => absurd e21 z_) (fun c_256 => ?_)
  refine ev_aload_n rfl rfl rfl ?_
  refine ev_getI rfl rfl fl_X10_237 rfl rfl rfl ?_
  refine ev_if_ne rfl rfl (fun c_263 => ?_) (fun z_ => absurd z_ e28)
  refine ev_aload_n rfl rfl rfl ?_
  refine ev_bipush (v := 6) rfl rfl (by decide) ?_
  refine ev_iconst (v := 0) rfl rfl (by decide) ?_
  refine ev_V2U rfl rfl lk_X10_200 vt_X10_fails rfl rfl rfl rfl rfl (m_fails L b h1 e21 _ _) ?_
  exact ev_vret rfl rfl trivial (⟨rfl, rfl, ((hJ.set rfl (by decide)).set rfl (B.any _)), hR _ (by simp (disch := decide) only [ev_rd1, ev_rd2, ev_rd3]; decide)⟩)

set_option maxRecDepth 100000 in
set_option maxHeartbeats 4000000 in
theorem l_rtE3 (L : Nat) (b : Bool) (h h1 : Hp) (R : Hp → Prop) (wI : Int32) (hJ : JW [(63, 17), (63, 18), (63, 19), (63, 20), (63, 21), (63, 22), (63, 27), (63, 28), (63, 31), (75, 999), (76, 999), (77, 999)] h h1) (e21 : h1 63 21 = 0) (q : Nat) (hq : q ≤ 60) (eq : h1 63 27 = nI q) (e28 : h1 63 28 = 0) (h24 : 24 < q) (hR : ∀ z : Hp, ¬ z 63 21 = 0 → R z) : EvQ mi_X10_readTune 19 [some (.ref 63), some (.int wI), some (.int 0), none] [] (G0 L b) h1 0 0 (QK R [(63, 17), (63, 18), (63, 19), (63, 20), (63, 21), (63, 22), (63, 27), (63, 28), (63, 31), (75, 999), (76, 999), (77, 999)] (G0 L b) h) := by
  refine ev_iload_n rfl rfl rfl ?_
  refine ev_if_eq rfl rfl (fun c_20 => ?_) (fun z_ => absurd (by decide) z_)
  refine ev_aload_n rfl rfl rfl ?_
  refine ev_getI rfl rfl fl_X10_191 rfl rfl rfl ?_
  try simp only [eq]
  refine ev_if_ne rfl rfl (fun z_ => absurd e21 z_) (fun c_256 => ?_)
  refine ev_aload_n rfl rfl rfl ?_
  refine ev_getI rfl rfl fl_X10_237 rfl rfl rfl ?_
  try simp only [eq]
  refine ev_if_ne rfl rfl (fun z_ => absurd e28 z_) (fun c_263 => ?_)
  refine ev_aload_n rfl rfl rfl ?_
  refine ev_getI rfl rfl fl_X10_234 rfl rfl rfl ?_
  try simp only [eq]
  refine ev_bipush (v := 24) rfl rfl (by decide) ?_
  refine ev_icmp_le rfl rfl (fun z_ => absurd z_ (fun z_ => absurd ((nI_le2 (a := q) (b := 24) (by omega) (by decide)).mp z_) (by omega))) (fun c_272 => ?_)
  refine ev_aload_n rfl rfl rfl ?_
  refine ev_bipush (v := 6) rfl rfl (by decide) ?_
  refine ev_iconst (v := 0) rfl rfl (by decide) ?_
  refine ev_V2U rfl rfl lk_X10_200 vt_X10_fails rfl rfl rfl rfl rfl (m_fails L b h1 e21 _ _) ?_
  exact ev_vret rfl rfl trivial (⟨rfl, rfl, ((hJ.set rfl (by decide)).set rfl (B.any _)), hR _ (by simp (disch := decide) only [ev_rd1, ev_rd2, ev_rd3]; decide)⟩)

set_option maxRecDepth 100000 in
set_option maxHeartbeats 4000000 in
theorem rt_1 (L : Nat) (b : Bool) (h h1 : Hp) (T : Nat → Int32) (n m : Nat) (r : Nat → Int32) (d : Nat) (bg rd : Nat → Nat) (hn : n ≤ 160) (hJ : JW [(63, 17), (63, 18), (63, 19), (63, 20), (63, 21), (63, 22), (63, 27), (63, 28), (63, 31), (75, 999), (76, 999), (77, 999)] h h1) (e1 : h1 63 16 = nI n) (eT : ∀ j, h1 72 j = T j) (hR : MR m r d bg rd h1) (hm : m ≤ 25) (hd4 : d ≤ 4) (hb : ∀ i, i < d → bg i ≤ m ∧ 1 ≤ rd i ∧ rd i ≤ 20) (e : Nat) (he : e ≤ n) (e17 : h1 63 17 = nI e) (e21 : h1 63 21 = 0) (Q : Pst) (wI : Int32) (x : Int32) (e19 : h1 63 19 = 1) (e20 : h1 63 20 = x) (hx : B x 0 4095) (kk : ∀ h2 : Hp, JW [(63, 17), (63, 18), (63, 19), (63, 20), (63, 21), (63, 22), (63, 27), (63, 28), (63, 31), (75, 999), (76, 999), (77, 999)] h h2 → h2 63 16 = nI n → (∀ j, h2 72 j = T j) → MTK (p_tok T n e) h2 → MR (p_mn m) (p_ad r m x) d bg rd h2 → EvQ mi_X10_readTune 19 [some (.ref 63), some (.int 0), some (.int 1), none] [] (G0 L b) h2 0 0 Q)  : EvQ mi_X10_readTune 19 [some (.ref 63), some (.int wI), some (.int 1), none] [] (G0 L b) h1 0 0 Q := by
  obtain ⟨a1, a2, q, eq, hq, a5, a6, a7⟩ := id hR
  refine ev_iload_n rfl rfl rfl ?_
  refine ev_if_eq rfl rfl (fun z_ => absurd z_ (by decide)) (fun c_20 => ?_)
  refine ev_aload_n rfl rfl rfl ?_
  refine ev_getI rfl rfl fl_X10_191 rfl rfl rfl ?_
  try simp only [e20]
  refine ev_if_ne rfl rfl (fun z_ => absurd e21 z_) (fun c_27 => ?_)
  refine ev_aload_n rfl rfl rfl ?_
  refine ev_getV (v := 1) rfl rfl fl_X10_204 rfl rfl rfl e19 ?_
  refine ev_iconst (v := 1) rfl rfl (by decide) ?_
  refine ev_icmp_eq rfl rfl (fun c_35 => ?_) (fun z_ => absurd (by decide) z_)
  refine ev_aload_n rfl rfl rfl ?_
  refine ev_aload_n rfl rfl rfl ?_
  refine ev_getV (v := 1) rfl rfl fl_X10_204 rfl rfl rfl e19 ?_
  refine ev_iconst (v := 1) rfl rfl (by decide) ?_
  refine ev_icmp_ne rfl rfl (fun z_ => absurd (by decide) z_) (fun c_53 => ?_)
  refine ev_aload_n rfl rfl rfl ?_
  refine ev_getI rfl rfl fl_X10_207 rfl rfl rfl ?_
  try simp only [e20]
  refine ev_goto rfl rfl ?_
  refine ev_V1U rfl rfl lk_X10_247 vt_X10_beatRead rfl rfl rfl rfl rfl (c_beatRead L b h1 q hq eq _) ?_
  refine ev_iconst (v := 0) rfl rfl (by decide) ?_
  refine ev_istore_n rfl rfl rfl rfl ?_
  dsimp only [List.set]
  refine ev_aload_n rfl rfl rfl ?_
  refine ev_V0K (jw_br (q := q) (c := x) hJ hx) rfl rfl rfl lk_X10_251 vt_X10_next rfl rfl rfl rfl rfl (w_nextM L b _ (jw_br (q := q) (c := x) hJ hx).1 T n e hn he (by rw [k_br_ne (by decide) (fun z => by first | exact absurd z.1 (by decide) | exact absurd z.2 (by decide))]; exact e1) (fun j => by rw [k_br_ne (by decide) (fun z => by first | exact absurd z.1 (by decide) | exact absurd z.2 (by decide))]; exact eT j) (by rw [k_br_ne (by decide) (fun z => by first | exact absurd z.1 (by decide) | exact absurd z.2 (by decide))]; exact e17) (by rw [k_br_ne (by decide) (fun z => by first | exact absurd z.1 (by decide) | exact absurd z.2 (by decide))]; exact e21)) (fun h2 j2 k2 m2 => ?_)
  refine ev_goto rfl rfl ?_
  exact kk h2 j2 ((k2.2 63 16 rfl).trans (by rw [k_br_ne (by decide) (fun z => by first | exact absurd z.1 (by decide) | exact absurd z.2 (by decide))]; exact e1)) (fun j => (k2.2 72 j rfl).trans (by rw [k_br_ne (by decide) (fun z => by first | exact absurd z.1 (by decide) | exact absurd z.2 (by decide))]; exact eT j)) m2 (MR.call (mr_beat x hm hR eq hq (fun i hi => (hb i hi).1)) k2 rfl rfl rfl (fun _ => rfl) (fun _ => rfl) (fun _ => rfl))

set_option maxRecDepth 100000 in
set_option maxHeartbeats 4000000 in
theorem rt_3 (L : Nat) (b : Bool) (h h1 : Hp) (T : Nat → Int32) (n m : Nat) (r : Nat → Int32) (d : Nat) (bg rd : Nat → Nat) (hn : n ≤ 160) (hJ : JW [(63, 17), (63, 18), (63, 19), (63, 20), (63, 21), (63, 22), (63, 27), (63, 28), (63, 31), (75, 999), (76, 999), (77, 999)] h h1) (e1 : h1 63 16 = nI n) (eT : ∀ j, h1 72 j = T j) (hR : MR m r d bg rd h1) (hm : m ≤ 25) (hd4 : d ≤ 4) (hb : ∀ i, i < d → bg i ≤ m ∧ 1 ≤ rd i ∧ rd i ≤ 20) (e : Nat) (he : e ≤ n) (e17 : h1 63 17 = nI e) (e21 : h1 63 21 = 0) (Q : Pst) (wI : Int32) (e19 : h1 63 19 = 3) (e20 : h1 63 20 = 46) (kk : ∀ h2 : Hp, JW [(63, 17), (63, 18), (63, 19), (63, 20), (63, 21), (63, 22), (63, 27), (63, 28), (63, 31), (75, 999), (76, 999), (77, 999)] h h2 → h2 63 16 = nI n → (∀ j, h2 72 j = T j) → MTK (p_tok T n e) h2 → MR (p_mn m) (p_ad r m 0) d bg rd h2 → EvQ mi_X10_readTune 19 [some (.ref 63), some (.int 0), some (.int 1), none] [] (G0 L b) h2 0 0 Q)  : EvQ mi_X10_readTune 19 [some (.ref 63), some (.int wI), some (.int 1), none] [] (G0 L b) h1 0 0 Q := by
  obtain ⟨a1, a2, q, eq, hq, a5, a6, a7⟩ := id hR
  refine ev_iload_n rfl rfl rfl ?_
  refine ev_if_eq rfl rfl (fun z_ => absurd z_ (by decide)) (fun c_20 => ?_)
  refine ev_aload_n rfl rfl rfl ?_
  refine ev_getI rfl rfl fl_X10_191 rfl rfl rfl ?_
  try simp only [e20]
  refine ev_if_ne rfl rfl (fun z_ => absurd e21 z_) (fun c_27 => ?_)
  refine ev_aload_n rfl rfl rfl ?_
  refine ev_getV (v := 3) rfl rfl fl_X10_204 rfl rfl rfl e19 ?_
  refine ev_iconst (v := 1) rfl rfl (by decide) ?_
  refine ev_icmp_eq rfl rfl (fun z_ => absurd z_ (by decide)) (fun c_35 => ?_)
  refine ev_aload_n rfl rfl rfl ?_
  refine ev_bipush (v := 46) rfl rfl (by decide) ?_
  refine ev_V1D rfl rfl lk_X10_244 vt_X10_isSign rfl rfl rfl rfl rfl (show EvD mi_X10_isSign _ _ _ 1 _ from EvD.to (c_isSign L b h1 46) (by rw [e19, e20]; rfl) rfl) ?_
  refine ev_if_eq rfl rfl (fun z_ => absurd z_ (by decide)) (fun c_44 => ?_)
  refine ev_aload_n rfl rfl rfl ?_
  refine ev_aload_n rfl rfl rfl ?_
  refine ev_getV (v := 3) rfl rfl fl_X10_204 rfl rfl rfl e19 ?_
  refine ev_iconst (v := 1) rfl rfl (by decide) ?_
  refine ev_icmp_ne rfl rfl (fun c_53 => ?_) (fun z_ => absurd z_ (by decide))
  refine ev_iconst (v := 0) rfl rfl (by decide) ?_
  refine ev_V1U rfl rfl lk_X10_247 vt_X10_beatRead rfl rfl rfl rfl rfl (c_beatRead L b h1 q hq eq _) ?_
  refine ev_iconst (v := 0) rfl rfl (by decide) ?_
  refine ev_istore_n rfl rfl rfl rfl ?_
  dsimp only [List.set]
  refine ev_aload_n rfl rfl rfl ?_
  refine ev_V0K (jw_br (q := q) (c := 0) hJ (by decide)) rfl rfl rfl lk_X10_251 vt_X10_next rfl rfl rfl rfl rfl (w_nextM L b _ (jw_br (q := q) (c := 0) hJ (by decide)).1 T n e hn he (by rw [k_br_ne (by decide) (fun z => by first | exact absurd z.1 (by decide) | exact absurd z.2 (by decide))]; exact e1) (fun j => by rw [k_br_ne (by decide) (fun z => by first | exact absurd z.1 (by decide) | exact absurd z.2 (by decide))]; exact eT j) (by rw [k_br_ne (by decide) (fun z => by first | exact absurd z.1 (by decide) | exact absurd z.2 (by decide))]; exact e17) (by rw [k_br_ne (by decide) (fun z => by first | exact absurd z.1 (by decide) | exact absurd z.2 (by decide))]; exact e21)) (fun h2 j2 k2 m2 => ?_)
  refine ev_goto rfl rfl ?_
  exact kk h2 j2 ((k2.2 63 16 rfl).trans (by rw [k_br_ne (by decide) (fun z => by first | exact absurd z.1 (by decide) | exact absurd z.2 (by decide))]; exact e1)) (fun j => (k2.2 72 j rfl).trans (by rw [k_br_ne (by decide) (fun z => by first | exact absurd z.1 (by decide) | exact absurd z.2 (by decide))]; exact eT j)) m2 (MR.call (mr_beat 0 hm hR eq hq (fun i hi => (hb i hi).1)) k2 rfl rfl rfl (fun _ => rfl) (fun _ => rfl) (fun _ => rfl))

set_option maxRecDepth 100000 in
set_option maxHeartbeats 4000000 in
theorem rt_2z (L : Nat) (b : Bool) (h h1 : Hp) (R : Hp → Prop) (hF : ∀ z : Hp, ¬ z 63 21 = 0 → R z) (hJ : JW [(63, 17), (63, 18), (63, 19), (63, 20), (63, 21), (63, 22), (63, 27), (63, 28), (63, 31), (75, 999), (76, 999), (77, 999)] h h1) (e21 : h1 63 21 = 0) (wI x : Int32) (e19 : h1 63 19 = 2) (e20 : h1 63 20 = x) (hz : z_wi x 1 20 = 0) : EvQ mi_X10_readTune 19 [some (.ref 63), some (.int wI), some (.int 1), none] [] (G0 L b) h1 0 0 (QK R [(63, 17), (63, 18), (63, 19), (63, 20), (63, 21), (63, 22), (63, 27), (63, 28), (63, 31), (75, 999), (76, 999), (77, 999)] (G0 L b) h) := by
  refine ev_iload_n rfl rfl rfl ?_
  refine ev_if_eq rfl rfl (fun z_ => absurd z_ (by decide)) (fun c_20 => ?_)
  refine ev_aload_n rfl rfl rfl ?_
  refine ev_getI rfl rfl fl_X10_191 rfl rfl rfl ?_
  try simp (disch := decide) only [ev_rd1, ev_rd2, ev_rd3, e20]
  refine ev_if_ne rfl rfl (fun z_ => absurd e21 z_) (fun c_27 => ?_)
  refine ev_aload_n rfl rfl rfl ?_
  refine ev_getV (v := 2) rfl rfl fl_X10_204 rfl rfl rfl e19 ?_
  refine ev_iconst (v := 1) rfl rfl (by decide) ?_
  refine ev_icmp_eq rfl rfl (fun z_ => absurd z_ (by decide)) (fun c_35 => ?_)
  refine ev_aload_n rfl rfl rfl ?_
  refine ev_bipush (v := 46) rfl rfl (by decide) ?_
  refine ev_V1D rfl rfl lk_X10_244 vt_X10_isSign rfl rfl rfl rfl rfl (show EvD mi_X10_isSign _ _ _ 0 _ from EvD.to (c_isSign L b h1 46) (by unfold z_is; rw [e19]; rfl) rfl) ?_
  refine ev_if_eq rfl rfl (fun c_44 => ?_) (fun z_ => absurd (by decide) z_)
  refine ev_aload_n rfl rfl rfl ?_
  refine ev_getV (v := 2) rfl rfl fl_X10_204 rfl rfl rfl e19 ?_
  refine ev_iconst (v := 2) rfl rfl (by decide) ?_
  refine ev_icmp_ne rfl rfl (fun z_ => absurd (by decide) z_) (fun c_81 => ?_)
  refine ev_aload_n rfl rfl rfl ?_
  refine ev_aload_n rfl rfl rfl ?_
  refine ev_getI rfl rfl fl_X10_207 rfl rfl rfl ?_
  try simp (disch := decide) only [ev_rd1, ev_rd2, ev_rd3, e20]
  refine ev_i2l rfl rfl ?_
  refine ev_lconst (v := 1) rfl rfl rfl ?_
  refine ev_ldc2 rfl rfl kc_X10_167 ?_
  refine ev_S3D rfl rfl lk_X10_124 st_X10_in rfl rfl (c_inw _ _ _ (1) (20) (by decide) (by decide)) ?_
  rw [hz]
  refine ev_iconst (v := 3) rfl rfl (by decide) ?_
  refine ev_V2U rfl rfl lk_X10_230 vt_X10_wants rfl rfl rfl rfl rfl (m_wants L b h1 e21 _) ?_
  refine ev_aload_n rfl rfl rfl ?_
  refine ev_getI rfl rfl fl_X10_207 rfl rfl rfl ?_
  try simp (disch := decide) only [ev_rd1, ev_rd2, ev_rd3, e20]
  refine ev_istore_n rfl rfl rfl rfl ?_
  dsimp only [List.set]
  refine ev_aload_n rfl rfl rfl ?_
  refine ev_V0U rfl rfl lk_X10_251 vt_X10_next rfl rfl rfl rfl rfl (c_nextF L b _ ((hJ.set rfl (by decide)).set rfl (B.any _)).1 (by simp (disch := decide) only [ev_rd1, ev_rd2, ev_rd3]; decide)) ?_
  refine ev_aload_n rfl rfl rfl ?_
  refine ev_aload_n rfl rfl rfl ?_
  refine ev_bipush (v := 40) rfl rfl (by decide) ?_
  refine ev_V1D rfl rfl lk_X10_244 vt_X10_isSign rfl rfl rfl rfl rfl (c_isSign L b _ _) ?_
  refine ev_iconst (v := 2) rfl rfl (by decide) ?_
  refine ev_V2U rfl rfl lk_X10_230 vt_X10_wants rfl rfl rfl rfl rfl (c_wantsF L b _ _ _ (by simp (disch := decide) only [ev_rd1, ev_rd2, ev_rd3]; decide)) ?_
  refine ev_aload_n rfl rfl rfl ?_
  refine ev_aload_n rfl rfl rfl ?_
  refine ev_getI rfl rfl fl_X10_241 rfl rfl rfl ?_
  try simp (disch := decide) only [ev_rd1, ev_rd2, ev_rd3, e20]
  refine ev_iconst (v := 4) rfl rfl (by decide) ?_
  refine ev_icmp_ge rfl rfl (fun c_127 => ?_) (fun c_127 => ?_)
  · refine ev_iconst (v := 0) rfl rfl (by decide) ?_
    refine ev_iconst (v := 5) rfl rfl (by decide) ?_
    refine ev_V2U rfl rfl lk_X10_230 vt_X10_wants rfl rfl rfl rfl rfl (c_wantsF L b _ _ _ (by simp (disch := decide) only [ev_rd1, ev_rd2, ev_rd3]; decide)) ?_
    refine ev_aload_n rfl rfl rfl ?_
    refine ev_getI rfl rfl fl_X10_191 rfl rfl rfl ?_
    try simp (disch := decide) only [ev_rd1, ev_rd2, ev_rd3, e20]
    refine ev_if_ne rfl rfl (fun c_143 => ?_) (fun z_ => absurd z_ (by decide))
    refine ev_aload_n rfl rfl rfl ?_
    refine ev_V0U rfl rfl lk_X10_251 vt_X10_next rfl rfl rfl rfl rfl (c_nextF L b _ ((hJ.set rfl (by decide)).set rfl (B.any _)).1 (by simp (disch := decide) only [ev_rd1, ev_rd2, ev_rd3]; decide)) ?_
    refine ev_goto rfl rfl ?_
    exact EvQ.drop 3 (l_rtX L b h _ R _ _ ((hJ.set rfl (by decide)).set rfl (B.any _)) (hF _ (by simp (disch := decide) only [ev_rd1, ev_rd2, ev_rd3]; decide)) (by simp (disch := decide) only [ev_rd1, ev_rd2, ev_rd3]; decide))
  · refine ev_iconst (v := 1) rfl rfl (by decide) ?_
    refine ev_goto rfl rfl ?_
    refine ev_iconst (v := 5) rfl rfl (by decide) ?_
    refine ev_V2U rfl rfl lk_X10_230 vt_X10_wants rfl rfl rfl rfl rfl (c_wantsF L b _ _ _ (by simp (disch := decide) only [ev_rd1, ev_rd2, ev_rd3]; decide)) ?_
    refine ev_aload_n rfl rfl rfl ?_
    refine ev_getI rfl rfl fl_X10_191 rfl rfl rfl ?_
    try simp (disch := decide) only [ev_rd1, ev_rd2, ev_rd3, e20]
    refine ev_if_ne rfl rfl (fun c_143 => ?_) (fun z_ => absurd z_ (by decide))
    refine ev_aload_n rfl rfl rfl ?_
    refine ev_V0U rfl rfl lk_X10_251 vt_X10_next rfl rfl rfl rfl rfl (c_nextF L b _ ((hJ.set rfl (by decide)).set rfl (B.any _)).1 (by simp (disch := decide) only [ev_rd1, ev_rd2, ev_rd3]; decide)) ?_
    refine ev_goto rfl rfl ?_
    exact EvQ.drop 3 (l_rtX L b h _ R _ _ ((hJ.set rfl (by decide)).set rfl (B.any _)) (hF _ (by simp (disch := decide) only [ev_rd1, ev_rd2, ev_rd3]; decide)) (by simp (disch := decide) only [ev_rd1, ev_rd2, ev_rd3]; decide))

set_option maxRecDepth 100000 in
set_option maxHeartbeats 4000000 in
theorem rt_2 (L : Nat) (b : Bool) (h h1 : Hp) (T : Nat → Int32) (n m : Nat) (r : Nat → Int32) (d : Nat) (bg rd : Nat → Nat) (hn : n ≤ 160) (hJ : JW [(63, 17), (63, 18), (63, 19), (63, 20), (63, 21), (63, 22), (63, 27), (63, 28), (63, 31), (75, 999), (76, 999), (77, 999)] h h1) (e1 : h1 63 16 = nI n) (eT : ∀ j, h1 72 j = T j) (hR : MR m r d bg rd h1) (hm : m ≤ 25) (hd4 : d ≤ 4) (hb : ∀ i, i < d → bg i ≤ m ∧ 1 ≤ rd i ∧ rd i ≤ 20) (e : Nat) (he : e ≤ n) (e17 : h1 63 17 = nI e) (e21 : h1 63 21 = 0) (Q : Pst) (wI x : Int32) (e19 : h1 63 19 = 2) (e20 : h1 63 20 = x) (hz : ¬ z_wi x 1 20 = 0) (k110 : ∀ h2 : Hp, JW [(63, 17), (63, 18), (63, 19), (63, 20), (63, 21), (63, 22), (63, 27), (63, 28), (63, 31), (75, 999), (76, 999), (77, 999)] h h2 → h2 63 16 = nI n → (∀ j, h2 72 j = T j) → MTK (p_tok T n e) h2 → MR m r d bg rd h2 → EvQ mi_X10_readTune 110 [some (.ref 63), some (.int wI), some (.int 1), some (.int x)] [] (G0 L b) h2 0 0 Q)  : EvQ mi_X10_readTune 19 [some (.ref 63), some (.int wI), some (.int 1), none] [] (G0 L b) h1 0 0 Q := by
  refine ev_iload_n rfl rfl rfl ?_
  refine ev_if_eq rfl rfl (fun z_ => absurd z_ (by decide)) (fun c_20 => ?_)
  refine ev_aload_n rfl rfl rfl ?_
  refine ev_getI rfl rfl fl_X10_191 rfl rfl rfl ?_
  try simp only [e20]
  refine ev_if_ne rfl rfl (fun z_ => absurd e21 z_) (fun c_27 => ?_)
  refine ev_aload_n rfl rfl rfl ?_
  refine ev_getV (v := 2) rfl rfl fl_X10_204 rfl rfl rfl e19 ?_
  refine ev_iconst (v := 1) rfl rfl (by decide) ?_
  refine ev_icmp_eq rfl rfl (fun z_ => absurd z_ (by decide)) (fun c_35 => ?_)
  refine ev_aload_n rfl rfl rfl ?_
  refine ev_bipush (v := 46) rfl rfl (by decide) ?_
  refine ev_V1D rfl rfl lk_X10_244 vt_X10_isSign rfl rfl rfl rfl rfl (show EvD mi_X10_isSign _ _ _ 0 _ from EvD.to (c_isSign L b h1 46) (by unfold z_is; rw [e19]; rfl) rfl) ?_
  refine ev_if_eq rfl rfl (fun c_44 => ?_) (fun z_ => absurd (by decide) z_)
  refine ev_aload_n rfl rfl rfl ?_
  refine ev_getV (v := 2) rfl rfl fl_X10_204 rfl rfl rfl e19 ?_
  refine ev_iconst (v := 2) rfl rfl (by decide) ?_
  refine ev_icmp_ne rfl rfl (fun z_ => absurd (by decide) z_) (fun c_81 => ?_)
  refine ev_aload_n rfl rfl rfl ?_
  refine ev_aload_n rfl rfl rfl ?_
  refine ev_getI rfl rfl fl_X10_207 rfl rfl rfl ?_
  try simp only [e20]
  refine ev_i2l rfl rfl ?_
  refine ev_lconst (v := 1) rfl rfl rfl ?_
  refine ev_ldc2 rfl rfl kc_X10_167 ?_
  refine ev_S3D rfl rfl lk_X10_124 st_X10_in rfl rfl (c_inw _ _ _ (1) (20) (by decide) (by decide)) ?_
  refine ev_iconst (v := 3) rfl rfl (by decide) ?_
  refine ev_V2U rfl rfl lk_X10_230 vt_X10_wants rfl rfl rfl rfl rfl (c_wantsP L b h1 _ _ hz) ?_
  refine ev_aload_n rfl rfl rfl ?_
  refine ev_getI rfl rfl fl_X10_207 rfl rfl rfl ?_
  try simp only [e20]
  refine ev_istore_n rfl rfl rfl rfl ?_
  dsimp only [List.set]
  refine ev_aload_n rfl rfl rfl ?_
  refine ev_V0K hJ rfl rfl rfl lk_X10_251 vt_X10_next rfl rfl rfl rfl rfl (w_nextM L b _ hJ.1 T n e hn he (by skip; exact e1) (fun j => by skip; exact eT j) (by skip; exact e17) (by skip; exact e21)) (fun h2 j2 k2 m2 => ?_)
  exact k110 h2 j2 ((k2.2 63 16 rfl).trans e1) (fun j => (k2.2 72 j rfl).trans (eT j)) m2 (MR.call hR k2 rfl rfl rfl (fun _ => rfl) (fun _ => rfl) (fun _ => rfl))

set_option maxRecDepth 100000 in
set_option maxHeartbeats 4000000 in
theorem rt_110a (L : Nat) (b : Bool) (h h1 : Hp) (R : Hp → Prop) (hF : ∀ z : Hp, ¬ z 63 21 = 0 → R z) (hJ : JW [(63, 17), (63, 18), (63, 19), (63, 20), (63, 21), (63, 22), (63, 27), (63, 28), (63, 31), (75, 999), (76, 999), (77, 999)] h h1) (wI x : Int32) (hf : ¬ h1 63 21 = 0) : EvQ mi_X10_readTune 110 [some (.ref 63), some (.int wI), some (.int 1), some (.int x)] [] (G0 L b) h1 0 0 (QK R [(63, 17), (63, 18), (63, 19), (63, 20), (63, 21), (63, 22), (63, 27), (63, 28), (63, 31), (75, 999), (76, 999), (77, 999)] (G0 L b) h) := by
  refine ev_aload_n rfl rfl rfl ?_
  refine ev_aload_n rfl rfl rfl ?_
  refine ev_bipush (v := 40) rfl rfl (by decide) ?_
  refine ev_V1D rfl rfl lk_X10_244 vt_X10_isSign rfl rfl rfl rfl rfl (c_isSign L b _ _) ?_
  refine ev_iconst (v := 2) rfl rfl (by decide) ?_
  refine ev_V2U rfl rfl lk_X10_230 vt_X10_wants rfl rfl rfl rfl rfl (c_wantsF L b _ _ _ hf) ?_
  refine ev_aload_n rfl rfl rfl ?_
  refine ev_aload_n rfl rfl rfl ?_
  refine ev_getI rfl rfl fl_X10_241 rfl rfl rfl ?_
  refine ev_iconst (v := 4) rfl rfl (by decide) ?_
  refine ev_icmp_ge rfl rfl (fun c_127 => ?_) (fun c_127 => ?_)
  · refine ev_iconst (v := 0) rfl rfl (by decide) ?_
    refine ev_iconst (v := 5) rfl rfl (by decide) ?_
    refine ev_V2U rfl rfl lk_X10_230 vt_X10_wants rfl rfl rfl rfl rfl (c_wantsF L b _ _ _ hf) ?_
    refine ev_aload_n rfl rfl rfl ?_
    refine ev_getI rfl rfl fl_X10_191 rfl rfl rfl ?_
    refine ev_if_ne rfl rfl (fun c_143 => ?_) (fun z_ => absurd z_ hf)
    refine ev_aload_n rfl rfl rfl ?_
    refine ev_V0U rfl rfl lk_X10_251 vt_X10_next rfl rfl rfl rfl rfl (c_nextF L b _ hJ.1 hf) ?_
    refine ev_goto rfl rfl ?_
    exact EvQ.drop 3 (l_rtX L b h _ R _ _ hJ (hF _ hf) hf)
  · refine ev_iconst (v := 1) rfl rfl (by decide) ?_
    refine ev_goto rfl rfl ?_
    refine ev_iconst (v := 5) rfl rfl (by decide) ?_
    refine ev_V2U rfl rfl lk_X10_230 vt_X10_wants rfl rfl rfl rfl rfl (c_wantsF L b _ _ _ hf) ?_
    refine ev_aload_n rfl rfl rfl ?_
    refine ev_getI rfl rfl fl_X10_191 rfl rfl rfl ?_
    refine ev_if_ne rfl rfl (fun c_143 => ?_) (fun z_ => absurd z_ hf)
    refine ev_aload_n rfl rfl rfl ?_
    refine ev_V0U rfl rfl lk_X10_251 vt_X10_next rfl rfl rfl rfl rfl (c_nextF L b _ hJ.1 hf) ?_
    refine ev_goto rfl rfl ?_
    exact EvQ.drop 3 (l_rtX L b h _ R _ _ hJ (hF _ hf) hf)

set_option maxRecDepth 100000 in
set_option maxHeartbeats 4000000 in
theorem rt_110b (L : Nat) (b : Bool) (h h1 : Hp) (R : Hp → Prop) (hF : ∀ z : Hp, ¬ z 63 21 = 0 → R z) (hJ : JW [(63, 17), (63, 18), (63, 19), (63, 20), (63, 21), (63, 22), (63, 27), (63, 28), (63, 31), (75, 999), (76, 999), (77, 999)] h h1) (wI x : Int32) (e21 : h1 63 21 = 0) (hs : z_is (h1 63 19) (h1 63 20) 40 = 0) : EvQ mi_X10_readTune 110 [some (.ref 63), some (.int wI), some (.int 1), some (.int x)] [] (G0 L b) h1 0 0 (QK R [(63, 17), (63, 18), (63, 19), (63, 20), (63, 21), (63, 22), (63, 27), (63, 28), (63, 31), (75, 999), (76, 999), (77, 999)] (G0 L b) h) := by
  refine ev_aload_n rfl rfl rfl ?_
  refine ev_aload_n rfl rfl rfl ?_
  refine ev_bipush (v := 40) rfl rfl (by decide) ?_
  refine ev_V1D rfl rfl lk_X10_244 vt_X10_isSign rfl rfl rfl rfl rfl (c_isSign L b _ _) ?_
  rw [hs]
  refine ev_iconst (v := 2) rfl rfl (by decide) ?_
  refine ev_V2U rfl rfl lk_X10_230 vt_X10_wants rfl rfl rfl rfl rfl (m_wants L b h1 e21 _) ?_
  refine ev_aload_n rfl rfl rfl ?_
  refine ev_aload_n rfl rfl rfl ?_
  refine ev_getI rfl rfl fl_X10_241 rfl rfl rfl ?_
  try simp (disch := decide) only [ev_rd1, ev_rd2, ev_rd3]
  refine ev_iconst (v := 4) rfl rfl (by decide) ?_
  refine ev_icmp_ge rfl rfl (fun c_127 => ?_) (fun c_127 => ?_)
  · refine ev_iconst (v := 0) rfl rfl (by decide) ?_
    refine ev_iconst (v := 5) rfl rfl (by decide) ?_
    refine ev_V2U rfl rfl lk_X10_230 vt_X10_wants rfl rfl rfl rfl rfl (c_wantsF L b _ _ _ (by simp (disch := decide) only [ev_rd1, ev_rd2, ev_rd3]; decide)) ?_
    refine ev_aload_n rfl rfl rfl ?_
    refine ev_getI rfl rfl fl_X10_191 rfl rfl rfl ?_
    try simp (disch := decide) only [ev_rd1, ev_rd2, ev_rd3]
    refine ev_if_ne rfl rfl (fun c_143 => ?_) (fun z_ => absurd z_ (by decide))
    refine ev_aload_n rfl rfl rfl ?_
    refine ev_V0U rfl rfl lk_X10_251 vt_X10_next rfl rfl rfl rfl rfl (c_nextF L b _ ((hJ.set rfl (by decide)).set rfl (B.any _)).1 (by simp (disch := decide) only [ev_rd1, ev_rd2, ev_rd3]; decide)) ?_
    refine ev_goto rfl rfl ?_
    exact EvQ.drop 3 (l_rtX L b h _ R _ _ ((hJ.set rfl (by decide)).set rfl (B.any _)) (hF _ (by simp (disch := decide) only [ev_rd1, ev_rd2, ev_rd3]; decide)) (by simp (disch := decide) only [ev_rd1, ev_rd2, ev_rd3]; decide))
  · refine ev_iconst (v := 1) rfl rfl (by decide) ?_
    refine ev_goto rfl rfl ?_
    refine ev_iconst (v := 5) rfl rfl (by decide) ?_
    refine ev_V2U rfl rfl lk_X10_230 vt_X10_wants rfl rfl rfl rfl rfl (c_wantsF L b _ _ _ (by simp (disch := decide) only [ev_rd1, ev_rd2, ev_rd3]; decide)) ?_
    refine ev_aload_n rfl rfl rfl ?_
    refine ev_getI rfl rfl fl_X10_191 rfl rfl rfl ?_
    try simp (disch := decide) only [ev_rd1, ev_rd2, ev_rd3]
    refine ev_if_ne rfl rfl (fun c_143 => ?_) (fun z_ => absurd z_ (by decide))
    refine ev_aload_n rfl rfl rfl ?_
    refine ev_V0U rfl rfl lk_X10_251 vt_X10_next rfl rfl rfl rfl rfl (c_nextF L b _ ((hJ.set rfl (by decide)).set rfl (B.any _)).1 (by simp (disch := decide) only [ev_rd1, ev_rd2, ev_rd3]; decide)) ?_
    refine ev_goto rfl rfl ?_
    exact EvQ.drop 3 (l_rtX L b h _ R _ _ ((hJ.set rfl (by decide)).set rfl (B.any _)) (hF _ (by simp (disch := decide) only [ev_rd1, ev_rd2, ev_rd3]; decide)) (by simp (disch := decide) only [ev_rd1, ev_rd2, ev_rd3]; decide))

set_option maxRecDepth 100000 in
set_option maxHeartbeats 4000000 in
theorem rt_110c (L : Nat) (b : Bool) (h h1 : Hp) (R : Hp → Prop) (hF : ∀ z : Hp, ¬ z 63 21 = 0 → R z) (hJ : JW [(63, 17), (63, 18), (63, 19), (63, 20), (63, 21), (63, 22), (63, 27), (63, 28), (63, 31), (75, 999), (76, 999), (77, 999)] h h1) (wI x : Int32) (e21 : h1 63 21 = 0) (hs : ¬ z_is (h1 63 19) (h1 63 20) 40 = 0) (d : Nat) (hd : 4 ≤ d) (hd4 : d ≤ 4) (ed : h1 63 31 = nI d) : EvQ mi_X10_readTune 110 [some (.ref 63), some (.int wI), some (.int 1), some (.int x)] [] (G0 L b) h1 0 0 (QK R [(63, 17), (63, 18), (63, 19), (63, 20), (63, 21), (63, 22), (63, 27), (63, 28), (63, 31), (75, 999), (76, 999), (77, 999)] (G0 L b) h) := by
  refine ev_aload_n rfl rfl rfl ?_
  refine ev_aload_n rfl rfl rfl ?_
  refine ev_bipush (v := 40) rfl rfl (by decide) ?_
  refine ev_V1D rfl rfl lk_X10_244 vt_X10_isSign rfl rfl rfl rfl rfl (c_isSign L b _ _) ?_
  refine ev_iconst (v := 2) rfl rfl (by decide) ?_
  refine ev_V2U rfl rfl lk_X10_230 vt_X10_wants rfl rfl rfl rfl rfl (c_wantsP L b h1 _ _ hs) ?_
  refine ev_aload_n rfl rfl rfl ?_
  refine ev_aload_n rfl rfl rfl ?_
  refine ev_getI rfl rfl fl_X10_241 rfl rfl rfl ?_
  try simp (disch := decide) only [ev_rd1, ev_rd2, ev_rd3, ed]
  refine ev_iconst (v := 4) rfl rfl (by decide) ?_
  refine ev_icmp_ge rfl rfl (fun c_127 => ?_) (fun z_ => absurd ((nI_le2 (a := 4) (b := d) (by decide) (by omega)).mpr hd) z_)
  refine ev_iconst (v := 0) rfl rfl (by decide) ?_
  refine ev_iconst (v := 5) rfl rfl (by decide) ?_
  refine ev_V2U rfl rfl lk_X10_230 vt_X10_wants rfl rfl rfl rfl rfl (m_wants L b h1 e21 _) ?_
  refine ev_aload_n rfl rfl rfl ?_
  refine ev_getI rfl rfl fl_X10_191 rfl rfl rfl ?_
  try simp (disch := decide) only [ev_rd1, ev_rd2, ev_rd3, ed]
  refine ev_if_ne rfl rfl (fun c_143 => ?_) (fun z_ => absurd z_ (by decide))
  refine ev_aload_n rfl rfl rfl ?_
  refine ev_V0U rfl rfl lk_X10_251 vt_X10_next rfl rfl rfl rfl rfl (c_nextF L b _ ((hJ.set rfl (by decide)).set rfl (B.any _)).1 (by simp (disch := decide) only [ev_rd1, ev_rd2, ev_rd3]; decide)) ?_
  refine ev_goto rfl rfl ?_
  exact EvQ.drop 3 (l_rtX L b h _ R _ _ ((hJ.set rfl (by decide)).set rfl (B.any _)) (hF _ (by simp (disch := decide) only [ev_rd1, ev_rd2, ev_rd3]; decide)) (by simp (disch := decide) only [ev_rd1, ev_rd2, ev_rd3]; decide))

theorem mr_push {m d v q : Nat} {r : Nat → Int32} {bg rd : Nat → Nat} {h : Hp} (hR : MR m r d bg rd h) (hd : d < 4) (eq : h 63 27 = nI q) (hq : q ≤ 60) : MR m r (d + 1) (p_un bg d m) (p_un rd d v) (ev_set (ev_set (ev_set h 76 d (nI q)) 77 d (nI v)) 63 31 (nI (d + 1))) := by
  obtain ⟨a1, a2, q', a3, a4, a5, a6, a7⟩ := hR
  have e : q' = q := (nI_eq (by omega) (by omega)).mp (a3.symm.trans eq)
  subst e
  refine ⟨ev_rd1 _ _ _ _, fun i hi => ?_, q', by simp (disch := decide) only [ev_rd1, ev_rd2, ev_rd3]; exact a3, a4, fun i hi => ?_, fun z => ?_, fun z => ?_⟩
  · rw [ev_rd2 (by decide), ev_sj]
    unfold p_un
    by_cases w : i = d
    · rw [if_pos w, if_pos w]
    · rw [if_neg w, if_neg w, ev_rd2 (by decide)]; exact a2 i (by omega)
  · rw [ev_rd2 (by decide), ev_rd2 (by decide), ev_sj]
    unfold p_un
    by_cases w : i = d
    · exact ⟨q', by rw [if_pos w], Nat.le_refl _, fun z => by rw [if_pos w]; exact (a6 z).1⟩
    · obtain ⟨a, b1, b2, b3⟩ := a5 i (by omega)
      exact ⟨a, by rw [if_neg w]; exact b1, b2, fun z => by rw [if_neg w]; exact b3 z⟩
  · obtain ⟨b1, b2, b3⟩ := a6 z
    exact ⟨b1, by simp (disch := decide) only [ev_rd1, ev_rd2, ev_rd3]; exact b2, fun i hi => by simp (disch := decide) only [ev_rd1, ev_rd2, ev_rd3]; exact b3 i hi⟩
  · rcases a7 z with b1 | b1
    · exact Or.inl (by simp (disch := decide) only [ev_rd1, ev_rd2, ev_rd3]; exact b1)
    · exact Or.inr b1

theorem nI_20 {a : Nat} (h : a ≤ 20) : B (nI a) 0 20 := nI_B (by omega) (by omega)
set_option maxRecDepth 100000 in
set_option maxHeartbeats 4000000 in
theorem rt_110s (L : Nat) (b : Bool) (h h1 : Hp) (T : Nat → Int32) (n m : Nat) (r : Nat → Int32) (d : Nat) (bg rd : Nat → Nat) (hn : n ≤ 160) (hJ : JW [(63, 17), (63, 18), (63, 19), (63, 20), (63, 21), (63, 22), (63, 27), (63, 28), (63, 31), (75, 999), (76, 999), (77, 999)] h h1) (e1 : h1 63 16 = nI n) (eT : ∀ j, h1 72 j = T j) (hR : MR m r d bg rd h1) (hm : m ≤ 25) (hd4 : d ≤ 4) (hb : ∀ i, i < d → bg i ≤ m ∧ 1 ≤ rd i ∧ rd i ≤ 20) (e : Nat) (he : e ≤ n) (e17 : h1 63 17 = nI e) (e21 : h1 63 21 = 0) (Q : Pst) (wI : Int32) (v : Nat) (hv1 : 1 ≤ v) (hv20 : v ≤ 20) (hs : ¬ z_is (h1 63 19) (h1 63 20) 40 = 0) (hd : d < 4) (kk : ∀ h2 : Hp, JW [(63, 17), (63, 18), (63, 19), (63, 20), (63, 21), (63, 22), (63, 27), (63, 28), (63, 31), (75, 999), (76, 999), (77, 999)] h h2 → h2 63 16 = nI n → (∀ j, h2 72 j = T j) → MTK (p_tok T n e) h2 → MR m r (d + 1) (p_un bg d m) (p_un rd d v) h2 → EvQ mi_X10_readTune 19 [some (.ref 63), some (.int 1), some (.int 1), none] [] (G0 L b) h2 0 0 Q)  : EvQ mi_X10_readTune 110 [some (.ref 63), some (.int wI), some (.int 1), some (.int (nI v))] [] (G0 L b) h1 0 0 Q := by
  obtain ⟨a1, a2, q, eq, hq, a5, a6, a7⟩ := id hR
  refine ev_aload_n rfl rfl rfl ?_
  refine ev_aload_n rfl rfl rfl ?_
  refine ev_bipush (v := 40) rfl rfl (by decide) ?_
  refine ev_V1D rfl rfl lk_X10_244 vt_X10_isSign rfl rfl rfl rfl rfl (c_isSign L b _ _) ?_
  refine ev_iconst (v := 2) rfl rfl (by decide) ?_
  refine ev_V2U rfl rfl lk_X10_230 vt_X10_wants rfl rfl rfl rfl rfl (c_wantsP L b h1 _ _ hs) ?_
  refine ev_aload_n rfl rfl rfl ?_
  refine ev_aload_n rfl rfl rfl ?_
  refine ev_getI rfl rfl fl_X10_241 rfl rfl rfl ?_
  try simp (disch := decide) only [ev_rd1, ev_rd2, ev_rd3, a1, eq]
  refine ev_iconst (v := 4) rfl rfl (by decide) ?_
  refine ev_icmp_ge rfl rfl (fun z_ => absurd z_ (fun z_ => absurd ((nI_le2 (a := 4) (b := d) (by decide) (by omega)).mp z_) (by omega))) (fun c_127 => ?_)
  refine ev_iconst (v := 1) rfl rfl (by decide) ?_
  refine ev_goto rfl rfl ?_
  refine ev_iconst (v := 5) rfl rfl (by decide) ?_
  refine ev_V2U rfl rfl lk_X10_230 vt_X10_wants rfl rfl rfl rfl rfl (c_wantsP L b h1 _ _ (by decide)) ?_
  refine ev_aload_n rfl rfl rfl ?_
  refine ev_getI rfl rfl fl_X10_191 rfl rfl rfl ?_
  try simp (disch := decide) only [ev_rd1, ev_rd2, ev_rd3, a1, eq]
  refine ev_if_ne rfl rfl (fun z_ => absurd e21 z_) (fun c_143 => ?_)
  refine ev_aload_n rfl rfl rfl ?_
  refine ev_getR rfl rfl fl_X10_60 rfl rfl rfl rfl ?_
  refine ev_aload_n rfl rfl rfl ?_
  refine ev_getI rfl rfl fl_X10_241 rfl rfl rfl ?_
  try simp (disch := decide) only [ev_rd1, ev_rd2, ev_rd3, a1, eq]
  refine ev_aload_n rfl rfl rfl ?_
  refine ev_getI rfl rfl fl_X10_234 rfl rfl rfl ?_
  try simp (disch := decide) only [ev_rd1, ev_rd2, ev_rd3, a1, eq]
  refine ev_iast rfl rfl rfl rfl (vp_in_nI (by omega) (by decide)) (nI_clamp (by omega)) ?_
  refine ev_aload_n rfl rfl rfl ?_
  refine ev_getR rfl rfl fl_X10_63 rfl rfl rfl rfl ?_
  refine ev_aload_n rfl rfl rfl ?_
  refine ev_getI rfl rfl fl_X10_241 rfl rfl rfl ?_
  try simp (disch := decide) only [ev_rd1, ev_rd2, ev_rd3, a1, eq]
  refine ev_iload_n rfl rfl rfl ?_
  refine ev_iast rfl rfl rfl rfl (vp_in_nI (by omega) (by decide)) (nI_clamp (by omega)) ?_
  refine ev_aload_n rfl rfl rfl ?_
  refine ev_dup rfl rfl rfl ?_
  refine ev_getI rfl rfl fl_X10_241 rfl rfl rfl ?_
  try simp (disch := decide) only [ev_rd1, ev_rd2, ev_rd3, a1, eq]
  refine ev_iconst (v := 1) rfl rfl (by decide) ?_
  refine ev_iadd rfl rfl ?_
  refine ev_putI rfl rfl fl_X10_241 rfl rfl rfl rfl rfl ?_
  rw [nI_1 d]
  refine ev_iconst (v := 1) rfl rfl (by decide) ?_
  refine ev_istore_n rfl rfl rfl rfl ?_
  dsimp only [List.set]
  refine ev_aload_n rfl rfl rfl ?_
  refine ev_V0K (((hJ.set rfl (nI_60 hq)).set rfl (nI_20 hv20)).set rfl (nI_4 (by omega))) rfl rfl rfl lk_X10_251 vt_X10_next rfl rfl rfl rfl rfl (w_nextM L b _ (((hJ.set rfl (nI_60 hq)).set rfl (nI_20 hv20)).set rfl (nI_4 (by omega))).1 T n e hn he (by simp (disch := decide) only [ev_rd1, ev_rd2, ev_rd3]; exact e1) (fun j => by simp (disch := decide) only [ev_rd1, ev_rd2, ev_rd3]; exact eT j) (by simp (disch := decide) only [ev_rd1, ev_rd2, ev_rd3]; exact e17) (by simp (disch := decide) only [ev_rd1, ev_rd2, ev_rd3]; exact e21)) (fun h2 j2 k2 m2 => ?_)
  refine ev_goto rfl rfl ?_
  exact EvQ.drop 3 (kk h2 j2 ((k2.2 63 16 rfl).trans (by simp (disch := decide) only [ev_rd1, ev_rd2, ev_rd3]; exact e1)) (fun j => (k2.2 72 j rfl).trans (by simp (disch := decide) only [ev_rd1, ev_rd2, ev_rd3]; exact eT j)) m2 (MR.call (mr_push hR hd eq hq) k2 rfl rfl rfl (fun _ => rfl) (fun _ => rfl) (fun _ => rfl)))

set_option maxRecDepth 100000 in
set_option maxHeartbeats 4000000 in
theorem rt_4z (L : Nat) (b : Bool) (h h1 : Hp) (R : Hp → Prop) (hF : ∀ z : Hp, ¬ z 63 21 = 0 → R z) (hJ : JW [(63, 17), (63, 18), (63, 19), (63, 20), (63, 21), (63, 22), (63, 27), (63, 28), (63, 31), (75, 999), (76, 999), (77, 999)] h h1) (e21 : h1 63 21 = 0) (wI : Int32) (e19 : h1 63 19 = 3) (e20 : h1 63 20 = 40)  : EvQ mi_X10_readTune 19 [some (.ref 63), some (.int wI), some (.int 1), none] [] (G0 L b) h1 0 0 (QK R [(63, 17), (63, 18), (63, 19), (63, 20), (63, 21), (63, 22), (63, 27), (63, 28), (63, 31), (75, 999), (76, 999), (77, 999)] (G0 L b) h) := by
  refine ev_iload_n rfl rfl rfl ?_
  refine ev_if_eq rfl rfl (fun z_ => absurd z_ (by decide)) (fun c_20 => ?_)
  refine ev_aload_n rfl rfl rfl ?_
  refine ev_getI rfl rfl fl_X10_191 rfl rfl rfl ?_
  refine ev_if_ne rfl rfl (fun z_ => absurd e21 z_) (fun c_27 => ?_)
  refine ev_aload_n rfl rfl rfl ?_
  refine ev_getV (v := 3) rfl rfl fl_X10_204 rfl rfl rfl e19 ?_
  refine ev_iconst (v := 1) rfl rfl (by decide) ?_
  refine ev_icmp_eq rfl rfl (fun z_ => absurd z_ (by decide)) (fun c_35 => ?_)
  refine ev_aload_n rfl rfl rfl ?_
  refine ev_bipush (v := 46) rfl rfl (by decide) ?_
  refine ev_V1D rfl rfl lk_X10_244 vt_X10_isSign rfl rfl rfl rfl rfl (show EvD mi_X10_isSign _ _ _ 0 _ from EvD.to (c_isSign L b h1 46) (by rw [e19, e20]; rfl) rfl) ?_
  refine ev_if_eq rfl rfl (fun c_44 => ?_) (fun z_ => absurd (by decide) z_)
  refine ev_aload_n rfl rfl rfl ?_
  refine ev_getV (v := 3) rfl rfl fl_X10_204 rfl rfl rfl e19 ?_
  refine ev_iconst (v := 2) rfl rfl (by decide) ?_
  refine ev_icmp_ne rfl rfl (fun c_81 => ?_) (fun z_ => absurd z_ (by decide))
  refine ev_aload_n rfl rfl rfl ?_
  refine ev_bipush (v := 41) rfl rfl (by decide) ?_
  refine ev_V1D rfl rfl lk_X10_244 vt_X10_isSign rfl rfl rfl rfl rfl (show EvD mi_X10_isSign _ _ _ 0 _ from EvD.to (c_isSign L b h1 41) (by rw [e19, e20]; rfl) rfl) ?_
  refine ev_if_eq rfl rfl (fun c_194 => ?_) (fun z_ => absurd (by decide) z_)
  refine ev_aload_n rfl rfl rfl ?_
  refine ev_aload_n rfl rfl rfl ?_
  refine ev_getV (v := 3) rfl rfl fl_X10_204 rfl rfl rfl e19 ?_
  refine ev_if_ne rfl rfl (fun c_224 => ?_) (fun z_ => absurd z_ (by decide))
  refine ev_iconst (v := 0) rfl rfl (by decide) ?_
  refine ev_iconst (v := 2) rfl rfl (by decide) ?_
  refine ev_V2U rfl rfl lk_X10_230 vt_X10_wants rfl rfl rfl rfl rfl (m_wants L b h1 e21 _) ?_
  refine ev_iconst (v := 0) rfl rfl (by decide) ?_
  refine ev_istore_n rfl rfl rfl rfl ?_
  dsimp only [List.set]
  refine ev_goto rfl rfl ?_
  exact (l_rtX L b h _ R _ _ ((hJ.set rfl (by decide)).set rfl (B.any _)) (hF _ (by simp (disch := decide) only [ev_rd1, ev_rd2, ev_rd3]; decide)) (by simp (disch := decide) only [ev_rd1, ev_rd2, ev_rd3]; decide))

set_option maxRecDepth 100000 in
set_option maxHeartbeats 4000000 in
theorem rt_5w (L : Nat) (b : Bool) (h h1 : Hp) (R : Hp → Prop) (hF : ∀ z : Hp, ¬ z 63 21 = 0 → R z) (hJ : JW [(63, 17), (63, 18), (63, 19), (63, 20), (63, 21), (63, 22), (63, 27), (63, 28), (63, 31), (75, 999), (76, 999), (77, 999)] h h1) (e21 : h1 63 21 = 0) (e19 : h1 63 19 = 3) (e20 : h1 63 20 = 41)  : EvQ mi_X10_readTune 19 [some (.ref 63), some (.int 1), some (.int 1), none] [] (G0 L b) h1 0 0 (QK R [(63, 17), (63, 18), (63, 19), (63, 20), (63, 21), (63, 22), (63, 27), (63, 28), (63, 31), (75, 999), (76, 999), (77, 999)] (G0 L b) h) := by
  refine ev_iload_n rfl rfl rfl ?_
  refine ev_if_eq rfl rfl (fun z_ => absurd z_ (by decide)) (fun c_20 => ?_)
  refine ev_aload_n rfl rfl rfl ?_
  refine ev_getI rfl rfl fl_X10_191 rfl rfl rfl ?_
  refine ev_if_ne rfl rfl (fun z_ => absurd e21 z_) (fun c_27 => ?_)
  refine ev_aload_n rfl rfl rfl ?_
  refine ev_getV (v := 3) rfl rfl fl_X10_204 rfl rfl rfl e19 ?_
  refine ev_iconst (v := 1) rfl rfl (by decide) ?_
  refine ev_icmp_eq rfl rfl (fun z_ => absurd z_ (by decide)) (fun c_35 => ?_)
  refine ev_aload_n rfl rfl rfl ?_
  refine ev_bipush (v := 46) rfl rfl (by decide) ?_
  refine ev_V1D rfl rfl lk_X10_244 vt_X10_isSign rfl rfl rfl rfl rfl (show EvD mi_X10_isSign _ _ _ 0 _ from EvD.to (c_isSign L b h1 46) (by rw [e19, e20]; rfl) rfl) ?_
  refine ev_if_eq rfl rfl (fun c_44 => ?_) (fun z_ => absurd (by decide) z_)
  refine ev_aload_n rfl rfl rfl ?_
  refine ev_getV (v := 3) rfl rfl fl_X10_204 rfl rfl rfl e19 ?_
  refine ev_iconst (v := 2) rfl rfl (by decide) ?_
  refine ev_icmp_ne rfl rfl (fun c_81 => ?_) (fun z_ => absurd z_ (by decide))
  refine ev_aload_n rfl rfl rfl ?_
  refine ev_bipush (v := 41) rfl rfl (by decide) ?_
  refine ev_V1D rfl rfl lk_X10_244 vt_X10_isSign rfl rfl rfl rfl rfl (show EvD mi_X10_isSign _ _ _ 1 _ from EvD.to (c_isSign L b h1 41) (by rw [e19, e20]; rfl) rfl) ?_
  refine ev_if_eq rfl rfl (fun z_ => absurd z_ (by decide)) (fun c_194 => ?_)
  refine ev_aload_n rfl rfl rfl ?_
  refine ev_getI rfl rfl fl_X10_241 rfl rfl rfl ?_
  refine ev_if_le rfl rfl (fun c_201 => ?_) (fun c_201 => ?_)
  · refine ev_aload_n rfl rfl rfl ?_
    refine ev_aload_n rfl rfl rfl ?_
    refine ev_getV (v := 3) rfl rfl fl_X10_204 rfl rfl rfl e19 ?_
    refine ev_if_ne rfl rfl (fun c_224 => ?_) (fun z_ => absurd z_ (by decide))
    refine ev_iconst (v := 0) rfl rfl (by decide) ?_
    refine ev_iconst (v := 2) rfl rfl (by decide) ?_
    refine ev_V2U rfl rfl lk_X10_230 vt_X10_wants rfl rfl rfl rfl rfl (m_wants L b h1 e21 _) ?_
    refine ev_iconst (v := 0) rfl rfl (by decide) ?_
    refine ev_istore_n rfl rfl rfl rfl ?_
    dsimp only [List.set]
    refine ev_goto rfl rfl ?_
    exact (l_rtX L b h _ R _ _ ((hJ.set rfl (by decide)).set rfl (B.any _)) (hF _ (by simp (disch := decide) only [ev_rd1, ev_rd2, ev_rd3]; decide)) (by simp (disch := decide) only [ev_rd1, ev_rd2, ev_rd3]; decide))
  · refine ev_iload_n rfl rfl rfl ?_
    refine ev_if_ne rfl rfl (fun c_205 => ?_) (fun z_ => absurd z_ (by decide))
    refine ev_aload_n rfl rfl rfl ?_
    refine ev_aload_n rfl rfl rfl ?_
    refine ev_getV (v := 3) rfl rfl fl_X10_204 rfl rfl rfl e19 ?_
    refine ev_if_ne rfl rfl (fun c_224 => ?_) (fun z_ => absurd z_ (by decide))
    refine ev_iconst (v := 0) rfl rfl (by decide) ?_
    refine ev_iconst (v := 2) rfl rfl (by decide) ?_
    refine ev_V2U rfl rfl lk_X10_230 vt_X10_wants rfl rfl rfl rfl rfl (m_wants L b h1 e21 _) ?_
    refine ev_iconst (v := 0) rfl rfl (by decide) ?_
    refine ev_istore_n rfl rfl rfl rfl ?_
    dsimp only [List.set]
    refine ev_goto rfl rfl ?_
    exact (l_rtX L b h _ R _ _ ((hJ.set rfl (by decide)).set rfl (B.any _)) (hF _ (by simp (disch := decide) only [ev_rd1, ev_rd2, ev_rd3]; decide)) (by simp (disch := decide) only [ev_rd1, ev_rd2, ev_rd3]; decide))

set_option maxRecDepth 100000 in
set_option maxHeartbeats 4000000 in
theorem rt_5d (L : Nat) (b : Bool) (h h1 : Hp) (R : Hp → Prop) (hF : ∀ z : Hp, ¬ z 63 21 = 0 → R z) (hJ : JW [(63, 17), (63, 18), (63, 19), (63, 20), (63, 21), (63, 22), (63, 27), (63, 28), (63, 31), (75, 999), (76, 999), (77, 999)] h h1) (e21 : h1 63 21 = 0) (wI : Int32) (ed : h1 63 31 = 0) (e19 : h1 63 19 = 3) (e20 : h1 63 20 = 41)  : EvQ mi_X10_readTune 19 [some (.ref 63), some (.int wI), some (.int 1), none] [] (G0 L b) h1 0 0 (QK R [(63, 17), (63, 18), (63, 19), (63, 20), (63, 21), (63, 22), (63, 27), (63, 28), (63, 31), (75, 999), (76, 999), (77, 999)] (G0 L b) h) := by
  refine ev_iload_n rfl rfl rfl ?_
  refine ev_if_eq rfl rfl (fun z_ => absurd z_ (by decide)) (fun c_20 => ?_)
  refine ev_aload_n rfl rfl rfl ?_
  refine ev_getI rfl rfl fl_X10_191 rfl rfl rfl ?_
  refine ev_if_ne rfl rfl (fun z_ => absurd e21 z_) (fun c_27 => ?_)
  refine ev_aload_n rfl rfl rfl ?_
  refine ev_getV (v := 3) rfl rfl fl_X10_204 rfl rfl rfl e19 ?_
  refine ev_iconst (v := 1) rfl rfl (by decide) ?_
  refine ev_icmp_eq rfl rfl (fun z_ => absurd z_ (by decide)) (fun c_35 => ?_)
  refine ev_aload_n rfl rfl rfl ?_
  refine ev_bipush (v := 46) rfl rfl (by decide) ?_
  refine ev_V1D rfl rfl lk_X10_244 vt_X10_isSign rfl rfl rfl rfl rfl (show EvD mi_X10_isSign _ _ _ 0 _ from EvD.to (c_isSign L b h1 46) (by rw [e19, e20]; rfl) rfl) ?_
  refine ev_if_eq rfl rfl (fun c_44 => ?_) (fun z_ => absurd (by decide) z_)
  refine ev_aload_n rfl rfl rfl ?_
  refine ev_getV (v := 3) rfl rfl fl_X10_204 rfl rfl rfl e19 ?_
  refine ev_iconst (v := 2) rfl rfl (by decide) ?_
  refine ev_icmp_ne rfl rfl (fun c_81 => ?_) (fun z_ => absurd z_ (by decide))
  refine ev_aload_n rfl rfl rfl ?_
  refine ev_bipush (v := 41) rfl rfl (by decide) ?_
  refine ev_V1D rfl rfl lk_X10_244 vt_X10_isSign rfl rfl rfl rfl rfl (show EvD mi_X10_isSign _ _ _ 1 _ from EvD.to (c_isSign L b h1 41) (by rw [e19, e20]; rfl) rfl) ?_
  refine ev_if_eq rfl rfl (fun z_ => absurd z_ (by decide)) (fun c_194 => ?_)
  refine ev_aload_n rfl rfl rfl ?_
  refine ev_getI rfl rfl fl_X10_241 rfl rfl rfl ?_
  refine ev_if_le rfl rfl (fun c_201 => ?_) (fun z_ => absurd (by rw [ed]; exact Int32.le_refl _) z_)
  refine ev_aload_n rfl rfl rfl ?_
  refine ev_aload_n rfl rfl rfl ?_
  refine ev_getV (v := 3) rfl rfl fl_X10_204 rfl rfl rfl e19 ?_
  refine ev_if_ne rfl rfl (fun c_224 => ?_) (fun z_ => absurd z_ (by decide))
  refine ev_iconst (v := 0) rfl rfl (by decide) ?_
  refine ev_iconst (v := 2) rfl rfl (by decide) ?_
  refine ev_V2U rfl rfl lk_X10_230 vt_X10_wants rfl rfl rfl rfl rfl (m_wants L b h1 e21 _) ?_
  refine ev_iconst (v := 0) rfl rfl (by decide) ?_
  refine ev_istore_n rfl rfl rfl rfl ?_
  dsimp only [List.set]
  refine ev_goto rfl rfl ?_
  exact (l_rtX L b h _ R _ _ ((hJ.set rfl (by decide)).set rfl (B.any _)) (hF _ (by simp (disch := decide) only [ev_rd1, ev_rd2, ev_rd3]; decide)) (by simp (disch := decide) only [ev_rd1, ev_rd2, ev_rd3]; decide))

set_option maxRecDepth 100000 in
set_option maxHeartbeats 4000000 in
theorem rt_0w (L : Nat) (b : Bool) (h h1 : Hp) (R : Hp → Prop) (hF : ∀ z : Hp, ¬ z 63 21 = 0 → R z) (hJ : JW [(63, 17), (63, 18), (63, 19), (63, 20), (63, 21), (63, 22), (63, 27), (63, 28), (63, 31), (75, 999), (76, 999), (77, 999)] h h1) (e21 : h1 63 21 = 0) (e19 : h1 63 19 = 0)  : EvQ mi_X10_readTune 19 [some (.ref 63), some (.int 1), some (.int 1), none] [] (G0 L b) h1 0 0 (QK R [(63, 17), (63, 18), (63, 19), (63, 20), (63, 21), (63, 22), (63, 27), (63, 28), (63, 31), (75, 999), (76, 999), (77, 999)] (G0 L b) h) := by
  refine ev_iload_n rfl rfl rfl ?_
  refine ev_if_eq rfl rfl (fun z_ => absurd z_ (by decide)) (fun c_20 => ?_)
  refine ev_aload_n rfl rfl rfl ?_
  refine ev_getI rfl rfl fl_X10_191 rfl rfl rfl ?_
  refine ev_if_ne rfl rfl (fun z_ => absurd e21 z_) (fun c_27 => ?_)
  refine ev_aload_n rfl rfl rfl ?_
  refine ev_getV (v := 0) rfl rfl fl_X10_204 rfl rfl rfl e19 ?_
  refine ev_iconst (v := 1) rfl rfl (by decide) ?_
  refine ev_icmp_eq rfl rfl (fun z_ => absurd z_ (by decide)) (fun c_35 => ?_)
  refine ev_aload_n rfl rfl rfl ?_
  refine ev_bipush (v := 46) rfl rfl (by decide) ?_
  refine ev_V1D rfl rfl lk_X10_244 vt_X10_isSign rfl rfl rfl rfl rfl (show EvD mi_X10_isSign _ _ _ 0 _ from EvD.to (c_isSign L b h1 46) (by unfold z_is; rw [e19]; rfl) rfl) ?_
  refine ev_if_eq rfl rfl (fun c_44 => ?_) (fun z_ => absurd (by decide) z_)
  refine ev_aload_n rfl rfl rfl ?_
  refine ev_getV (v := 0) rfl rfl fl_X10_204 rfl rfl rfl e19 ?_
  refine ev_iconst (v := 2) rfl rfl (by decide) ?_
  refine ev_icmp_ne rfl rfl (fun c_81 => ?_) (fun z_ => absurd z_ (by decide))
  refine ev_aload_n rfl rfl rfl ?_
  refine ev_bipush (v := 41) rfl rfl (by decide) ?_
  refine ev_V1D rfl rfl lk_X10_244 vt_X10_isSign rfl rfl rfl rfl rfl (show EvD mi_X10_isSign _ _ _ 0 _ from EvD.to (c_isSign L b h1 41) (by unfold z_is; rw [e19]; rfl) rfl) ?_
  refine ev_if_eq rfl rfl (fun c_194 => ?_) (fun z_ => absurd (by decide) z_)
  refine ev_aload_n rfl rfl rfl ?_
  refine ev_aload_n rfl rfl rfl ?_
  refine ev_getV (v := 0) rfl rfl fl_X10_204 rfl rfl rfl e19 ?_
  refine ev_if_ne rfl rfl (fun z_ => absurd (by decide) z_) (fun c_224 => ?_)
  refine ev_aload_n rfl rfl rfl ?_
  refine ev_getI rfl rfl fl_X10_241 rfl rfl rfl ?_
  refine ev_if_ne rfl rfl (fun c_231 => ?_) (fun c_231 => ?_)
  · refine ev_iconst (v := 0) rfl rfl (by decide) ?_
    refine ev_iconst (v := 2) rfl rfl (by decide) ?_
    refine ev_V2U rfl rfl lk_X10_230 vt_X10_wants rfl rfl rfl rfl rfl (m_wants L b h1 e21 _) ?_
    refine ev_iconst (v := 0) rfl rfl (by decide) ?_
    refine ev_istore_n rfl rfl rfl rfl ?_
    dsimp only [List.set]
    refine ev_goto rfl rfl ?_
    exact (l_rtX L b h _ R _ _ ((hJ.set rfl (by decide)).set rfl (B.any _)) (hF _ (by simp (disch := decide) only [ev_rd1, ev_rd2, ev_rd3]; decide)) (by simp (disch := decide) only [ev_rd1, ev_rd2, ev_rd3]; decide))
  · refine ev_iload_n rfl rfl rfl ?_
    refine ev_if_ne rfl rfl (fun c_235 => ?_) (fun z_ => absurd z_ (by decide))
    refine ev_iconst (v := 0) rfl rfl (by decide) ?_
    refine ev_iconst (v := 2) rfl rfl (by decide) ?_
    refine ev_V2U rfl rfl lk_X10_230 vt_X10_wants rfl rfl rfl rfl rfl (m_wants L b h1 e21 _) ?_
    refine ev_iconst (v := 0) rfl rfl (by decide) ?_
    refine ev_istore_n rfl rfl rfl rfl ?_
    dsimp only [List.set]
    refine ev_goto rfl rfl ?_
    exact (l_rtX L b h _ R _ _ ((hJ.set rfl (by decide)).set rfl (B.any _)) (hF _ (by simp (disch := decide) only [ev_rd1, ev_rd2, ev_rd3]; decide)) (by simp (disch := decide) only [ev_rd1, ev_rd2, ev_rd3]; decide))

set_option maxRecDepth 100000 in
set_option maxHeartbeats 4000000 in
theorem rt_0d (L : Nat) (b : Bool) (h h1 : Hp) (R : Hp → Prop) (hF : ∀ z : Hp, ¬ z 63 21 = 0 → R z) (hJ : JW [(63, 17), (63, 18), (63, 19), (63, 20), (63, 21), (63, 22), (63, 27), (63, 28), (63, 31), (75, 999), (76, 999), (77, 999)] h h1) (e21 : h1 63 21 = 0) (wI : Int32) (ed : ¬ h1 63 31 = 0) (e19 : h1 63 19 = 0)  : EvQ mi_X10_readTune 19 [some (.ref 63), some (.int wI), some (.int 1), none] [] (G0 L b) h1 0 0 (QK R [(63, 17), (63, 18), (63, 19), (63, 20), (63, 21), (63, 22), (63, 27), (63, 28), (63, 31), (75, 999), (76, 999), (77, 999)] (G0 L b) h) := by
  refine ev_iload_n rfl rfl rfl ?_
  refine ev_if_eq rfl rfl (fun z_ => absurd z_ (by decide)) (fun c_20 => ?_)
  refine ev_aload_n rfl rfl rfl ?_
  refine ev_getI rfl rfl fl_X10_191 rfl rfl rfl ?_
  refine ev_if_ne rfl rfl (fun z_ => absurd e21 z_) (fun c_27 => ?_)
  refine ev_aload_n rfl rfl rfl ?_
  refine ev_getV (v := 0) rfl rfl fl_X10_204 rfl rfl rfl e19 ?_
  refine ev_iconst (v := 1) rfl rfl (by decide) ?_
  refine ev_icmp_eq rfl rfl (fun z_ => absurd z_ (by decide)) (fun c_35 => ?_)
  refine ev_aload_n rfl rfl rfl ?_
  refine ev_bipush (v := 46) rfl rfl (by decide) ?_
  refine ev_V1D rfl rfl lk_X10_244 vt_X10_isSign rfl rfl rfl rfl rfl (show EvD mi_X10_isSign _ _ _ 0 _ from EvD.to (c_isSign L b h1 46) (by unfold z_is; rw [e19]; rfl) rfl) ?_
  refine ev_if_eq rfl rfl (fun c_44 => ?_) (fun z_ => absurd (by decide) z_)
  refine ev_aload_n rfl rfl rfl ?_
  refine ev_getV (v := 0) rfl rfl fl_X10_204 rfl rfl rfl e19 ?_
  refine ev_iconst (v := 2) rfl rfl (by decide) ?_
  refine ev_icmp_ne rfl rfl (fun c_81 => ?_) (fun z_ => absurd z_ (by decide))
  refine ev_aload_n rfl rfl rfl ?_
  refine ev_bipush (v := 41) rfl rfl (by decide) ?_
  refine ev_V1D rfl rfl lk_X10_244 vt_X10_isSign rfl rfl rfl rfl rfl (show EvD mi_X10_isSign _ _ _ 0 _ from EvD.to (c_isSign L b h1 41) (by unfold z_is; rw [e19]; rfl) rfl) ?_
  refine ev_if_eq rfl rfl (fun c_194 => ?_) (fun z_ => absurd (by decide) z_)
  refine ev_aload_n rfl rfl rfl ?_
  refine ev_aload_n rfl rfl rfl ?_
  refine ev_getV (v := 0) rfl rfl fl_X10_204 rfl rfl rfl e19 ?_
  refine ev_if_ne rfl rfl (fun z_ => absurd (by decide) z_) (fun c_224 => ?_)
  refine ev_aload_n rfl rfl rfl ?_
  refine ev_getI rfl rfl fl_X10_241 rfl rfl rfl ?_
  refine ev_if_ne rfl rfl (fun c_231 => ?_) (fun z_ => absurd z_ ed)
  refine ev_iconst (v := 0) rfl rfl (by decide) ?_
  refine ev_iconst (v := 2) rfl rfl (by decide) ?_
  refine ev_V2U rfl rfl lk_X10_230 vt_X10_wants rfl rfl rfl rfl rfl (m_wants L b h1 e21 _) ?_
  refine ev_iconst (v := 0) rfl rfl (by decide) ?_
  refine ev_istore_n rfl rfl rfl rfl ?_
  dsimp only [List.set]
  refine ev_goto rfl rfl ?_
  exact (l_rtX L b h _ R _ _ ((hJ.set rfl (by decide)).set rfl (B.any _)) (hF _ (by simp (disch := decide) only [ev_rd1, ev_rd2, ev_rd3]; decide)) (by simp (disch := decide) only [ev_rd1, ev_rd2, ev_rd3]; decide))

set_option maxRecDepth 100000 in
set_option maxHeartbeats 4000000 in
theorem rt_0 (L : Nat) (b : Bool) (h h1 : Hp) (Q : Pst) (e21 : h1 63 21 = 0) (e19 : h1 63 19 = 0) (ed : h1 63 31 = 0) (k0 : EvQ mi_X10_readTune 19 [some (.ref 63), some (.int 0), some (.int 0), none] [] (G0 L b) h1 0 0 Q) : EvQ mi_X10_readTune 19 [some (.ref 63), some (.int 0), some (.int 1), none] [] (G0 L b) h1 0 0 Q := by
  refine ev_iload_n rfl rfl rfl ?_
  refine ev_if_eq rfl rfl (fun z_ => absurd z_ (by decide)) (fun c_20 => ?_)
  refine ev_aload_n rfl rfl rfl ?_
  refine ev_getI rfl rfl fl_X10_191 rfl rfl rfl ?_
  refine ev_if_ne rfl rfl (fun z_ => absurd e21 z_) (fun c_27 => ?_)
  refine ev_aload_n rfl rfl rfl ?_
  refine ev_getV (v := 0) rfl rfl fl_X10_204 rfl rfl rfl e19 ?_
  refine ev_iconst (v := 1) rfl rfl (by decide) ?_
  refine ev_icmp_eq rfl rfl (fun z_ => absurd z_ (by decide)) (fun c_35 => ?_)
  refine ev_aload_n rfl rfl rfl ?_
  refine ev_bipush (v := 46) rfl rfl (by decide) ?_
  refine ev_V1D rfl rfl lk_X10_244 vt_X10_isSign rfl rfl rfl rfl rfl (show EvD mi_X10_isSign _ _ _ 0 _ from EvD.to (c_isSign L b h1 46) (by unfold z_is; rw [e19]; rfl) rfl) ?_
  refine ev_if_eq rfl rfl (fun c_44 => ?_) (fun z_ => absurd (by decide) z_)
  refine ev_aload_n rfl rfl rfl ?_
  refine ev_getV (v := 0) rfl rfl fl_X10_204 rfl rfl rfl e19 ?_
  refine ev_iconst (v := 2) rfl rfl (by decide) ?_
  refine ev_icmp_ne rfl rfl (fun c_81 => ?_) (fun z_ => absurd z_ (by decide))
  refine ev_aload_n rfl rfl rfl ?_
  refine ev_bipush (v := 41) rfl rfl (by decide) ?_
  refine ev_V1D rfl rfl lk_X10_244 vt_X10_isSign rfl rfl rfl rfl rfl (show EvD mi_X10_isSign _ _ _ 0 _ from EvD.to (c_isSign L b h1 41) (by unfold z_is; rw [e19]; rfl) rfl) ?_
  refine ev_if_eq rfl rfl (fun c_194 => ?_) (fun z_ => absurd (by decide) z_)
  refine ev_aload_n rfl rfl rfl ?_
  refine ev_aload_n rfl rfl rfl ?_
  refine ev_getV (v := 0) rfl rfl fl_X10_204 rfl rfl rfl e19 ?_
  refine ev_if_ne rfl rfl (fun z_ => absurd (by decide) z_) (fun c_224 => ?_)
  refine ev_aload_n rfl rfl rfl ?_
  refine ev_getI rfl rfl fl_X10_241 rfl rfl rfl ?_
  refine ev_if_ne rfl rfl (fun z_ => absurd ed z_) (fun c_231 => ?_)
  refine ev_iload_n rfl rfl rfl ?_
  refine ev_if_ne rfl rfl (fun z_ => absurd (by decide) z_) (fun c_235 => ?_)
  refine ev_iconst (v := 1) rfl rfl (by decide) ?_
  refine ev_goto rfl rfl ?_
  refine ev_iconst (v := 2) rfl rfl (by decide) ?_
  refine ev_V2U rfl rfl lk_X10_230 vt_X10_wants rfl rfl rfl rfl rfl (c_wantsP L b h1 _ _ (by decide)) ?_
  refine ev_iconst (v := 0) rfl rfl (by decide) ?_
  refine ev_istore_n rfl rfl rfl rfl ?_
  dsimp only [List.set]
  refine ev_goto rfl rfl ?_
  exact k0

set_option maxRecDepth 100000 in
set_option maxHeartbeats 4000000 in
theorem rt_5 (L : Nat) (b : Bool) (h h1 : Hp) (T : Nat → Int32) (n m : Nat) (r : Nat → Int32) (d : Nat) (bg rd : Nat → Nat) (hn : n ≤ 160) (hJ : JW [(63, 17), (63, 18), (63, 19), (63, 20), (63, 21), (63, 22), (63, 27), (63, 28), (63, 31), (75, 999), (76, 999), (77, 999)] h h1) (e1 : h1 63 16 = nI n) (eT : ∀ j, h1 72 j = T j) (hR : MR m r d bg rd h1) (hm : m ≤ 25) (hd4 : d ≤ 4) (hb : ∀ i, i < d → bg i ≤ m ∧ 1 ≤ rd i ∧ rd i ≤ 20) (e : Nat) (he : e ≤ n) (e17 : h1 63 17 = nI e) (e21 : h1 63 21 = 0) (Q : Pst) (e19 : h1 63 19 = 3) (e20 : h1 63 20 = 41) (hd : 0 < d) (m' : Nat) (r' : Nat → Int32) (hs : (24 < m ∨ 24 < p_all m (bg (d - 1)) (rd (d - 1))) ∧ m' = 25 ∨ ¬ (24 < m ∨ 24 < p_all m (bg (d - 1)) (rd (d - 1))) ∧ m' = p_all m (bg (d - 1)) (rd (d - 1)) ∧ r' = p_cp (m - bg (d - 1)) (p_all m (bg (d - 1)) (rd (d - 1)) - m) m r) (kk : ∀ h2 : Hp, JW [(63, 17), (63, 18), (63, 19), (63, 20), (63, 21), (63, 22), (63, 27), (63, 28), (63, 31), (75, 999), (76, 999), (77, 999)] h h2 → h2 63 16 = nI n → (∀ j, h2 72 j = T j) → MTK (p_tok T n e) h2 → MR m' r' (d - 1) bg rd h2 → EvQ mi_X10_readTune 19 [some (.ref 63), some (.int 0), some (.int 1), none] [] (G0 L b) h2 0 0 Q)  : EvQ mi_X10_readTune 19 [some (.ref 63), some (.int 0), some (.int 1), none] [] (G0 L b) h1 0 0 Q := by
  obtain ⟨a1, a2, q, eq, hq, a5, a6, a7⟩ := id hR
  have hbd := hb (d - 1) (by omega)
  obtain ⟨a, b1, b2, b3⟩ := a5 (d - 1) (by omega)
  refine ev_iload_n rfl rfl rfl ?_
  refine ev_if_eq rfl rfl (fun z_ => absurd z_ (by decide)) (fun c_20 => ?_)
  refine ev_aload_n rfl rfl rfl ?_
  refine ev_getI rfl rfl fl_X10_191 rfl rfl rfl ?_
  try simp only [a1]
  refine ev_if_ne rfl rfl (fun z_ => absurd e21 z_) (fun c_27 => ?_)
  refine ev_aload_n rfl rfl rfl ?_
  refine ev_getV (v := 3) rfl rfl fl_X10_204 rfl rfl rfl e19 ?_
  refine ev_iconst (v := 1) rfl rfl (by decide) ?_
  refine ev_icmp_eq rfl rfl (fun z_ => absurd z_ (by decide)) (fun c_35 => ?_)
  refine ev_aload_n rfl rfl rfl ?_
  refine ev_bipush (v := 46) rfl rfl (by decide) ?_
  refine ev_V1D rfl rfl lk_X10_244 vt_X10_isSign rfl rfl rfl rfl rfl (show EvD mi_X10_isSign _ _ _ 0 _ from EvD.to (c_isSign L b h1 46) (by rw [e19, e20]; rfl) rfl) ?_
  refine ev_if_eq rfl rfl (fun c_44 => ?_) (fun z_ => absurd (by decide) z_)
  refine ev_aload_n rfl rfl rfl ?_
  refine ev_getV (v := 3) rfl rfl fl_X10_204 rfl rfl rfl e19 ?_
  refine ev_iconst (v := 2) rfl rfl (by decide) ?_
  refine ev_icmp_ne rfl rfl (fun c_81 => ?_) (fun z_ => absurd z_ (by decide))
  refine ev_aload_n rfl rfl rfl ?_
  refine ev_bipush (v := 41) rfl rfl (by decide) ?_
  refine ev_V1D rfl rfl lk_X10_244 vt_X10_isSign rfl rfl rfl rfl rfl (show EvD mi_X10_isSign _ _ _ 1 _ from EvD.to (c_isSign L b h1 41) (by rw [e19, e20]; rfl) rfl) ?_
  refine ev_if_eq rfl rfl (fun z_ => absurd z_ (by decide)) (fun c_194 => ?_)
  refine ev_aload_n rfl rfl rfl ?_
  refine ev_getI rfl rfl fl_X10_241 rfl rfl rfl ?_
  try simp only [a1]
  refine ev_if_le rfl rfl (fun z_ => absurd z_ (fun z_ => absurd ((nI_le2 (a := d) (b := 0) (by omega) (by decide)).mp z_) (by omega))) (fun c_201 => ?_)
  refine ev_iload_n rfl rfl rfl ?_
  refine ev_if_ne rfl rfl (fun z_ => absurd (by decide) z_) (fun c_205 => ?_)
  refine ev_aload_n rfl rfl rfl ?_
  refine ev_V0U rfl rfl lk_X10_254 vt_X10_closes rfl rfl rfl rfl rfl (c_closes L b h1 q hq eq d hd hd4 a1 a (rd (d - 1)) b2 hbd.2.1 hbd.2.2 b1 (a2 (d - 1) (by omega))) ?_
  refine ev_aload_n rfl rfl rfl ?_
  refine ev_V0K (jw_clo (q := q) (a := a) (x := rd (d - 1)) hJ hd4) rfl rfl rfl lk_X10_251 vt_X10_next rfl rfl rfl rfl rfl (w_nextM L b _ (jw_clo (q := q) (a := a) (x := rd (d - 1)) hJ hd4).1 T n e hn he (by rw [k_clo_ne (by decide) (fun z => by first | exact absurd z.1 (by decide) | exact absurd z.2 (by decide))]; exact e1) (fun j => by rw [k_clo_ne (by decide) (fun z => by first | exact absurd z.1 (by decide) | exact absurd z.2 (by decide))]; exact eT j) (by rw [k_clo_ne (by decide) (fun z => by first | exact absurd z.1 (by decide) | exact absurd z.2 (by decide))]; exact e17) (by rw [k_clo_ne (by decide) (fun z => by first | exact absurd z.1 (by decide) | exact absurd z.2 (by decide))]; exact e21)) (fun h2 j2 k2 m2 => ?_)
  refine ev_goto rfl rfl ?_
  exact kk h2 j2 ((k2.2 63 16 rfl).trans (by rw [k_clo_ne (by decide) (fun z => by first | exact absurd z.1 (by decide) | exact absurd z.2 (by decide))]; exact e1)) (fun j => (k2.2 72 j rfl).trans (by rw [k_clo_ne (by decide) (fun z => by first | exact absurd z.1 (by decide) | exact absurd z.2 (by decide))]; exact eT j)) m2 (MR.call (mr_clo hR hd hd4 eq hq b1 rfl hbd.2.1 hbd.2.2 b2 hm (fun i hi => (hb i hi).1) hs) k2 rfl rfl rfl (fun _ => rfl) (fun _ => rfl) (fun _ => rfl))

theorem p_ch_v {T : Nat → Int32} {n : Nat} : ∀ k p v c x, B v 0 4095 → p_ch T n k p v c = some x → B x.1 0 4095
  | 0, p, v, c, x, _, h => by unfold p_ch at h; cases h
  | k + 1, p, v, c, x, hv, h => by
    unfold p_ch at h
    split at h
    · rename_i q
      split at h
      · rename_i q2
        split at h
        · split at h
          · cases h
          · exact p_ch_v k _ _ _ x (p_vB hv q q2) h
        · cases h
      · cases h
    · cases h
      exact hv
theorem p_tok_v {T : Nat → Int32} {n p : Nat} {v : Int32} {e : Nat} (h : p_tok T n p = some (1, v, e)) : B v 0 4095 := by
  unfold p_tok p_at at h
  split at h
  · cases h
  · split at h
    · split at h
      · rename_i x hx
        have z := p_ch_v 6 _ 0 0 x (by decide) hx
        cases h
        exact z
      · cases h
    · split at h
      · split at h
        · cases h
        · cases h
      · split at h
        · cases h
        · split at h
          · cases h
          · split at h
            · cases h
            · cases h

def RTP (o : Option (Nat × (Nat → Int32))) (z : Hp) : Prop := match o with
  | none => ¬ z 63 21 = 0
  | some x => z 63 21 = 0 ∧ z 63 27 = nI x.1 ∧ ∀ i, i < x.1 → z 75 i = x.2 i
theorem l_rt (L : Nat) (b : Bool) (h : Hp) (T : Nat → Int32) (n : Nat) (hn : n ≤ 160) : ∀ (k p w m : Nat) (r : Nat → Int32) (d : Nat) (bg rd : Nat → Nat) (h1 : Hp), n + 1 ≤ p + k → p ≤ n → w ≤ 1 → PI w 0 m d bg rd → JW [(63, 17), (63, 18), (63, 19), (63, 20), (63, 21), (63, 22), (63, 27), (63, 28), (63, 31), (75, 999), (76, 999), (77, 999)] h h1 → h1 63 16 = nI n → (∀ j, h1 72 j = T j) → MTK (p_tok T n p) h1 → MR m r d bg rd h1 → EvQ mi_X10_readTune 19 [some (.ref 63), some (.int (if w = 0 then 1 else 0)), some (.int 1), none] [] (G0 L b) h1 0 0 (QK (RTP (p_run T n k (p, w, 0, m, r, d, bg, rd))) [(63, 17), (63, 18), (63, 19), (63, 20), (63, 21), (63, 22), (63, 27), (63, 28), (63, 31), (75, 999), (76, 999), (77, 999)] (G0 L b) h) := by
  intro k
  induction k using Nat.strongRecOn with
  | ind k ih =>
    intro p w m r d bg rd h1 hk hp hw hI hJ e1 eT ht hR
    obtain ⟨k', rfl⟩ : ∃ k', k = k' + 1 := ⟨k - 1, by omega⟩
    have hw2 : ¬ w = 2 := by omega
    obtain ⟨i1, i2, i3, i4, i5⟩ := id hI
    cases eo : p_tok T n p with
    | none =>
      have er : p_run T n (k' + 1) (p, w, 0, m, r, d, bg, rd) = none := p_run_n (by rw [eo]; rfl)
      rw [er]
      rw [eo] at ht
      exact l_rtX L b h h1 _ _ _ hJ ht ht
    | some y =>
      obtain ⟨t, x, e⟩ := y
      rw [eo] at ht
      obtain ⟨e21, e17, t0, t1, t2, t3, t4, t5⟩ := ht
      have he := p_tok_e hp eo
      have hF : ∀ z : Hp, ¬ z 63 21 = 0 → RTP none z := fun z q => q
      rcases (show t = 0 ∨ t = 1 ∨ t = 2 ∨ t = 3 ∨ t = 4 ∨ t = 5 by omega) with rfl | rfl | rfl | rfl | rfl | rfl
      · have e19 := t0 rfl
        by_cases hc : w = 1 ∧ d = 0
        · obtain ⟨rfl, rfl⟩ := hc
          have ed : h1 63 31 = 0 := hR.1
          obtain ⟨a1, a2, q, a3, a4, a5, a6, a7⟩ := id hR
          refine rt_0 L b h h1 _ e21 e19 ed ?_
          by_cases hm : m ≤ 24
          · have er : p_run T n (k' + 1) (p, 1, 0, m, r, 0, bg, rd) = some (m, r) := p_run_l (by rw [eo]; exact st_0 rfl hm)
            rw [er]
            obtain ⟨b1, b2, b3⟩ := a6 hm
            subst b1
            exact l_rtE1 L b h h1 _ _ hJ q a4 a3 e21 b2 hm ⟨e21, a3, b3⟩
          · have er : p_run T n (k' + 1) (p, 1, 0, m, r, 0, bg, rd) = none := p_run_n (by rw [eo]; exact st_0b rfl hm)
            rw [er]
            by_cases e28 : h1 63 28 = 0
            · exact l_rtE3 L b h h1 _ _ hJ e21 q a4 a3 e28 ((a7 (by omega)).elim (fun z => absurd e28 z) id) hF
            · exact l_rtE2 L b h h1 _ _ hJ e21 e28 hF
        · have er : p_run T n (k' + 1) (p, w, 0, m, r, d, bg, rd) = none := p_run_n (by rw [eo]; exact st_0z hw2 hc)
          rw [er]
          by_cases hw0 : w = 0
          · subst hw0
            exact rt_0w L b h h1 _ hF hJ e21 e19
          · exact rt_0d L b h h1 _ hF hJ e21 _ (fun z => hc ⟨by omega, (nI_eq (a := d) (b := 0) (by omega) (by decide)).mp (hR.1.symm.trans z)⟩) e19
      · obtain ⟨e19, e20⟩ := t1 rfl
        have es : p_stp (p_tok T n p) w 0 m r d bg rd = some (.inr (e, 1, 0, p_mn m, p_ad r m x, d, bg, rd)) := by rw [eo]; exact st_1 hw2
        have g := PI.stp hp hI es
        rw [p_run_r es]
        exact rt_1 L b h h1 T n m r d bg rd hn hJ e1 eT hR i2 i3 i5 e he.1 e17 e21 _ _ x e19 e20 (p_tok_v eo) (fun h2 j2 f1 f2 f3 f4 => ih k' (by omega) e 1 _ _ d bg rd h2 (by omega) he.1 (by omega) g.1 j2 f1 f2 f3 f4)
      · obtain ⟨e19, e20⟩ := t2 rfl
        by_cases hz : z_wi x 1 20 = 0
        · have er : p_run T n (k' + 1) (p, w, 0, m, r, d, bg, rd) = none := p_run_n (by rw [eo]; exact st_2z hw2 hz)
          rw [er]
          exact rt_2z L b h h1 _ hF hJ e21 _ x e19 e20 hz
        · have es : p_stp (p_tok T n p) w 0 m r d bg rd = some (.inr (e, 2, x.toNatClampNeg, m, r, d, bg, rd)) := by rw [eo]; exact st_2 hw2 hz
          have g := PI.stp hp hI es
          have xn := z_num hz
          rw [p_run_r es]
          have hp1 := he.2.1 (by decide)
          obtain ⟨k2, rfl⟩ : ∃ k2, k' = k2 + 1 := ⟨k' - 1, by omega⟩
          refine rt_2 L b h h1 T n m r d bg rd hn hJ e1 eT hR i2 i3 i5 e he.1 e17 e21 _ _ x e19 e20 hz (fun h2 j2 f1 f2 f3 f4 => ?_)
          cases eo2 : p_tok T n e with
          | none =>
            have er : p_run T n (k2 + 1) (e, 2, x.toNatClampNeg, m, r, d, bg, rd) = none := p_run_n (by rw [eo2]; rfl)
            rw [er]
            rw [eo2] at f3
            exact rt_110a L b h h2 _ hF j2 _ x f3
          | some y2 =>
            obtain ⟨u, x2, e2⟩ := y2
            have he2 := p_tok_e he.1 eo2
            rw [eo2] at f3
            obtain ⟨u21, u17, u0, u1, u2, u3, u4, u5⟩ := f3
            by_cases h4 : u = 4
            · subst h4
              obtain ⟨u19, u20⟩ := u4 rfl
              have hs : ¬ z_is (h2 63 19) (h2 63 20) 40 = 0 := by rw [u19, u20]; decide
              by_cases hd : d < 4
              · have es2 : p_stp (p_tok T n e) 2 x.toNatClampNeg m r d bg rd = some (.inr (e2, 0, 0, m, r, d + 1, p_un bg d m, p_un rd d x.toNatClampNeg)) := by rw [eo2]; exact st_o hd
                have g2 := PI.stp he.1 g.1 es2
                rw [p_run_r es2]
                have zz := rt_110s L b h h2 T n m r d bg rd hn j2 f1 f2 f4 i2 i3 i5 e2 he2.1 u17 u21 (QK (RTP (p_run T n k2 (e2, 0, 0, m, r, d + 1, p_un bg d m, p_un rd d x.toNatClampNeg))) [(63, 17), (63, 18), (63, 19), (63, 20), (63, 21), (63, 22), (63, 27), (63, 28), (63, 31), (75, 999), (76, 999), (77, 999)] (G0 L b) h) (if w = 0 then 1 else 0) x.toNatClampNeg xn.2.1 xn.2.2 hs hd (fun h3 j3 v1 v2 v3 v4 => ih k2 (by omega) e2 0 _ _ (d + 1) _ _ h3 (by have := he2.2.1 (by decide); omega) he2.1 (by omega) g2.1 j3 v1 v2 v3 v4)
                rw [← xn.1] at zz
                exact zz
              · have er : p_run T n (k2 + 1) (e, 2, x.toNatClampNeg, m, r, d, bg, rd) = none := p_run_n (by rw [eo2]; exact st_oz hd)
                rw [er]
                exact rt_110c L b h h2 _ hF j2 _ x u21 hs d (by omega) i3 f4.1
            · have er : p_run T n (k2 + 1) (e, 2, x.toNatClampNeg, m, r, d, bg, rd) = none := p_run_n (by rw [eo2]; exact st_ox h4)
              rw [er]
              refine rt_110b L b h h2 _ hF j2 _ x u21 ?_
              rcases (show u = 0 ∨ u = 1 ∨ u = 2 ∨ u = 3 ∨ u = 5 by omega) with rfl | rfl | rfl | rfl | rfl
              · rw [u0 rfl]; rfl
              · rw [(u1 rfl).1]; rfl
              · rw [(u2 rfl).1]; rfl
              · rw [(u3 rfl).1, (u3 rfl).2]; rfl
              · rw [(u5 rfl).1, (u5 rfl).2]; rfl
      · obtain ⟨e19, e20⟩ := t3 rfl
        have es : p_stp (p_tok T n p) w 0 m r d bg rd = some (.inr (e, 1, 0, p_mn m, p_ad r m 0, d, bg, rd)) := by rw [eo]; exact st_3 hw2
        have g := PI.stp hp hI es
        rw [p_run_r es]
        exact rt_3 L b h h1 T n m r d bg rd hn hJ e1 eT hR i2 i3 i5 e he.1 e17 e21 _ _ e19 e20 (fun h2 j2 f1 f2 f3 f4 => ih k' (by omega) e 1 _ _ d bg rd h2 (by omega) he.1 (by omega) g.1 j2 f1 f2 f3 f4)
      · obtain ⟨e19, e20⟩ := t4 rfl
        have er : p_run T n (k' + 1) (p, w, 0, m, r, d, bg, rd) = none := p_run_n (by rw [eo]; exact st_4z hw2)
        rw [er]
        exact rt_4z L b h h1 _ hF hJ e21 _ e19 e20
      · obtain ⟨e19, e20⟩ := t5 rfl
        by_cases hc : w = 1 ∧ 0 < d
        · obtain ⟨rfl, hd⟩ := hc
          by_cases hl : 24 < m ∨ 24 < p_all m (bg (d - 1)) (rd (d - 1))
          · have es : p_stp (p_tok T n p) 1 0 m r d bg rd = some (.inr (e, 1, 0, 25, r, d - 1, bg, rd)) := by rw [eo]; exact st_5b hd hl
            have g := PI.stp hp hI es
            rw [p_run_r es]
            exact rt_5 L b h h1 T n m r d bg rd hn hJ e1 eT hR i2 i3 i5 e he.1 e17 e21 _ e19 e20 hd 25 r (Or.inl ⟨hl, rfl⟩) (fun h2 j2 f1 f2 f3 f4 => ih k' (by omega) e 1 _ _ (d - 1) bg rd h2 (by omega) he.1 (by omega) g.1 j2 f1 f2 f3 f4)
          · have es : p_stp (p_tok T n p) 1 0 m r d bg rd = some (.inr (e, 1, 0, p_all m (bg (d - 1)) (rd (d - 1)), p_cp (m - bg (d - 1)) (p_all m (bg (d - 1)) (rd (d - 1)) - m) m r, d - 1, bg, rd)) := by rw [eo]; exact st_5 hd hl
            have g := PI.stp hp hI es
            rw [p_run_r es]
            exact rt_5 L b h h1 T n m r d bg rd hn hJ e1 eT hR i2 i3 i5 e he.1 e17 e21 _ e19 e20 hd _ _ (Or.inr ⟨hl, rfl, rfl⟩) (fun h2 j2 f1 f2 f3 f4 => ih k' (by omega) e 1 _ _ (d - 1) bg rd h2 (by omega) he.1 (by omega) g.1 j2 f1 f2 f3 f4)
        · have er : p_run T n (k' + 1) (p, w, 0, m, r, d, bg, rd) = none := p_run_n (by rw [eo]; exact st_5z hw2 hc)
          rw [er]
          by_cases hw0 : w = 0
          · subst hw0
            exact rt_5w L b h h1 _ hF hJ e21 e19 e20
          · exact rt_5d L b h h1 _ hF hJ e21 _ (by rw [hR.1, show d = 0 by omega]; rfl) e19 e20

set_option maxRecDepth 100000 in
set_option maxHeartbeats 4000000 in
theorem w_readTuneM (L : Nat) (b : Bool) (h : Hp) (hB : Bx h) (T : Nat → Int32) (n : Nat) (r0 : Nat → Int32) (hn : n ≤ 160) (e1 : h 63 16 = nI n) (eT : ∀ j, h 72 j = T j) (ht : MTK (p_tok T n 0) h) : EvK mi_X10_readTune [.ref 63] (G0 L b) h (RTP (p_run T n (n + 1) (0, 0, 0, 0, r0, 0, (fun _ => 0), (fun _ => 0)))) [(63, 17), (63, 18), (63, 19), (63, 20), (63, 21), (63, 22), (63, 27), (63, 28), (63, 31), (75, 999), (76, 999), (77, 999)] := by
  refine EvM.of2 (lo := [some (.ref 63), none, none, none]) pf_X10_readTune ok_X10_readTune rfl rfl ?_
  refine ev_iconst (v := 1) rfl rfl (by decide) ?_
  refine ev_istore_n rfl rfl rfl rfl ?_
  dsimp only [List.set]
  refine ev_aload_n rfl rfl rfl ?_
  refine ev_iconst (v := 0) rfl rfl (by decide) ?_
  refine ev_putI rfl rfl fl_X10_241 rfl rfl rfl rfl rfl ?_
  refine ev_aload_n rfl rfl rfl ?_
  refine ev_iconst (v := 0) rfl rfl (by decide) ?_
  refine ev_putI rfl rfl fl_X10_234 rfl rfl rfl rfl rfl ?_
  refine ev_aload_n rfl rfl rfl ?_
  refine ev_iconst (v := 0) rfl rfl (by decide) ?_
  refine ev_putZ rfl rfl fl_X10_237 rfl rfl rfl rfl rfl (by decide) ?_
  refine ev_iconst (v := 1) rfl rfl (by decide) ?_
  refine ev_istore_n rfl rfl rfl rfl ?_
  dsimp only [List.set]
  have ht2 : MTK (p_tok T n 0) (ev_set (ev_set (ev_set h 63 31 0) 63 27 0) 63 28 0) := by
    cases eo : p_tok T n 0 with
    | none => rw [eo] at ht; show ¬ _ = _; simp (disch := decide) only [ev_rd1, ev_rd2, ev_rd3]; exact ht
    | some y =>
      obtain ⟨t, x, e⟩ := y
      rw [eo] at ht
      obtain ⟨e21, e17, t0, t1, t2, t3, t4, t5⟩ := ht
      refine ⟨?_, ?_, fun z => ?_, fun z => ⟨?_, ?_⟩, fun z => ⟨?_, ?_⟩, fun z => ⟨?_, ?_⟩, fun z => ⟨?_, ?_⟩, fun z => ⟨?_, ?_⟩⟩ <;> simp (disch := decide) only [ev_rd1, ev_rd2, ev_rd3]
      · exact e21
      · exact e17
      · exact t0 z
      · exact (t1 z).1
      · exact (t1 z).2
      · exact (t2 z).1
      · exact (t2 z).2
      · exact (t3 z).1
      · exact (t3 z).2
      · exact (t4 z).1
      · exact (t4 z).2
      · exact (t5 z).1
      · exact (t5 z).2
  exact l_rt L b h T n hn (n + 1) 0 0 0 r0 0 (fun _ => 0) (fun _ => 0) _ (by omega) (by omega) (by omega) ⟨by omega, by omega, by omega, fun z => absurd z (by decide), fun i hi => absurd hi (by omega)⟩ ((((JW.refl hB).set rfl (by decide)).set rfl (by decide)).set rfl (B.any _)) (by simp (disch := decide) only [ev_rd1, ev_rd2, ev_rd3]; exact e1) (fun j => by simp (disch := decide) only [ev_rd1, ev_rd2, ev_rd3]; exact eT j) ht2 ⟨by simp (disch := decide) only [ev_rd1, ev_rd2, ev_rd3]; rfl, fun i hi => absurd hi (by omega), 0, by simp (disch := decide) only [ev_rd1, ev_rd2, ev_rd3]; rfl, by omega, fun i hi => absurd hi (by omega), fun _ => ⟨rfl, by simp (disch := decide) only [ev_rd1, ev_rd2, ev_rd3], fun i hi => absurd hi (by omega)⟩, fun z => absurd z (by decide)⟩
