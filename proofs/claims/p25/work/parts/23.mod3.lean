set_option maxRecDepth 100000 in
set_option maxHeartbeats 4000000 in
theorem m_look (L : Nat) (b : Bool) (h : Hp) (p : Int32) (hp : h 63 16 ≤ p) : EvD mi_X10_look [.ref 63, .int p] (G0 L b) h (-1) (h) := by
  refine EvD.of (lo := [some (.ref 63), some (.int p)]) pf_X10_look ok_X10_look rfl rfl ?_
  refine ev_iload_n rfl rfl rfl ?_
  refine ev_aload_n rfl rfl rfl ?_
  refine ev_getI rfl rfl fl_X10_186 rfl rfl rfl ?_
  refine ev_icmp_ge rfl rfl (fun c_5 => ?_) (fun z_ => absurd hp z_)
  refine ev_iconst (v := (-1)) rfl rfl (by decide) ?_
  exact ev_iret rfl rfl rfl (⟨rfl, rfl, rfl⟩)

set_option maxRecDepth 100000 in
set_option maxHeartbeats 4000000 in
theorem m_isSign (L : Nat) (b : Bool) (h : Hp) (hs : ¬ h 63 19 = 3) (c : Int32) : EvD mi_X10_isSign [.ref 63, .int c] (G0 L b) h (0) (h) := by
  refine EvD.of (lo := [some (.ref 63), some (.int c)]) pf_X10_isSign ok_X10_isSign rfl rfl ?_
  refine ev_aload_n rfl rfl rfl ?_
  refine ev_getI rfl rfl fl_X10_204 rfl rfl rfl ?_
  refine ev_iconst (v := 3) rfl rfl (by decide) ?_
  refine ev_icmp_ne rfl rfl (fun c_5 => ?_) (fun z_ => absurd z_ hs)
  refine ev_iconst (v := 0) rfl rfl (by decide) ?_
  exact ev_iret rfl rfl rfl (⟨rfl, rfl, rfl⟩)

set_option maxRecDepth 100000 in
set_option maxHeartbeats 4000000 in
theorem m_fails (L : Nat) (b : Bool) (h : Hp) (hf : h 63 21 = 0) (f p : Int32) : EvU mi_X10_fails [.ref 63, .int f, .int p] (G0 L b) h (ev_set (ev_set h 63 21 f) 63 22 p) := by
  refine EvU.of (lo := [some (.ref 63), some (.int f), some (.int p)]) pf_X10_fails ok_X10_fails rfl rfl ?_
  refine ev_aload_n rfl rfl rfl ?_
  refine ev_getI rfl rfl fl_X10_191 rfl rfl rfl ?_
  refine ev_if_ne rfl rfl (fun z_ => absurd hf z_) (fun c_4 => ?_)
  refine ev_aload_n rfl rfl rfl ?_
  refine ev_iload_n rfl rfl rfl ?_
  refine ev_putI rfl rfl fl_X10_191 rfl rfl rfl rfl rfl ?_
  refine ev_aload_n rfl rfl rfl ?_
  refine ev_iload_n rfl rfl rfl ?_
  refine ev_putI rfl rfl fl_X10_194 rfl rfl rfl rfl rfl ?_
  exact ev_vret rfl rfl trivial (⟨rfl, rfl, rfl⟩)

set_option maxRecDepth 100000 in
set_option maxHeartbeats 4000000 in
theorem m_wants (L : Nat) (b : Bool) (h : Hp) (hf : h 63 21 = 0) (f : Int32) : EvU mi_X10_wants [.ref 63, .int 0, .int f] (G0 L b) h (ev_set (ev_set h 63 21 f) 63 22 (h 63 18)) := by
  refine EvU.of (lo := [some (.ref 63), some (.int 0), some (.int f)]) pf_X10_wants ok_X10_wants rfl rfl ?_
  refine ev_iload_n rfl rfl rfl ?_
  refine ev_if_ne rfl rfl (fun z_ => absurd (by decide) z_) (fun c_1 => ?_)
  refine ev_aload_n rfl rfl rfl ?_
  refine ev_iload_n rfl rfl rfl ?_
  refine ev_aload_n rfl rfl rfl ?_
  refine ev_getI rfl rfl fl_X10_197 rfl rfl rfl ?_
  refine ev_V2U rfl rfl lk_X10_200 vt_X10_fails rfl rfl rfl rfl rfl (m_fails _ _ _ hf _ _) ?_
  exact ev_vret rfl rfl trivial (⟨rfl, rfl, rfl⟩)

set_option maxRecDepth 100000 in
set_option maxHeartbeats 4000000 in
theorem m_next (L : Nat) (b : Bool) (h : Hp) (hf : h 63 21 = 0) (hl : h 63 16 ≤ h 63 17) : EvU mi_X10_next [.ref 63] (G0 L b) h (ev_set (ev_set h 63 18 (h 63 17)) 63 19 0) := by
  refine EvU.of (lo := [some (.ref 63), none]) pf_X10_next ok_X10_next rfl rfl ?_
  refine ev_aload_n rfl rfl rfl ?_
  refine ev_getI rfl rfl fl_X10_191 rfl rfl rfl ?_
  refine ev_if_le rfl rfl (fun c_4 => ?_) (fun z_ => absurd (by rw [hf]; exact Int32.le_refl _) z_)
  refine ev_aload_n rfl rfl rfl ?_
  refine ev_aload_n rfl rfl rfl ?_
  refine ev_getI rfl rfl fl_X10_210 rfl rfl rfl ?_
  refine ev_V1D rfl rfl lk_X10_213 vt_X10_look rfl rfl rfl rfl rfl (m_look _ _ _ _ (by first | exact hl | (simp (disch := omega) only [ev_rd1, ev_rd2, ev_rd3]; exact hl))) ?_
  refine ev_bipush (v := 32) rfl rfl (by decide) ?_
  refine ev_icmp_ne rfl rfl (fun c_18 => ?_) (fun z_ => absurd z_ (by decide))
  refine ev_aload_n rfl rfl rfl ?_
  refine ev_aload_n rfl rfl rfl ?_
  refine ev_getI rfl rfl fl_X10_210 rfl rfl rfl ?_
  try simp (disch := omega) only [ev_rd1, ev_rd2, ev_rd3, ev_rc1, k_keep_ne]
  refine ev_putI rfl rfl fl_X10_197 rfl rfl rfl rfl rfl ?_
  refine ev_aload_n rfl rfl rfl ?_
  refine ev_aload_n rfl rfl rfl ?_
  refine ev_getI rfl rfl fl_X10_210 rfl rfl rfl ?_
  try simp (disch := omega) only [ev_rd1, ev_rd2, ev_rd3, ev_rc1, k_keep_ne]
  refine ev_V1D rfl rfl lk_X10_213 vt_X10_look rfl rfl rfl rfl rfl (m_look _ _ _ _ (by first | exact hl | (simp (disch := omega) only [ev_rd1, ev_rd2, ev_rd3]; exact hl))) ?_
  refine ev_istore_n rfl rfl rfl rfl ?_
  dsimp only [List.set]
  refine ev_iload_n rfl rfl rfl ?_
  refine ev_if_ge rfl rfl (fun z_ => absurd z_ (by decide)) (fun c_52 => ?_)
  refine ev_aload_n rfl rfl rfl ?_
  refine ev_iconst (v := 0) rfl rfl (by decide) ?_
  refine ev_putI rfl rfl fl_X10_204 rfl rfl rfl rfl rfl ?_
  refine ev_goto rfl rfl ?_
  exact ev_vret rfl rfl trivial (⟨rfl, rfl, rfl⟩)

def k_rt (h : Hp) : Hp := ev_set (ev_set (ev_set (ev_set (ev_set h 63 31 0) 63 27 0) 63 28 0) 63 21 2) 63 22 (h 63 18)

set_option maxRecDepth 100000 in
set_option maxHeartbeats 4000000 in
theorem m_readTune (L : Nat) (b : Bool) (h : Hp) (hf : h 63 21 = 0) (hs : h 63 19 = 0) : EvU mi_X10_readTune [.ref 63] (G0 L b) h (k_rt h) := by
  refine EvU.of (lo := [some (.ref 63), none, none, none]) pf_X10_readTune ok_X10_readTune rfl rfl ?_
  refine ev_iconst (v := 1) rfl rfl (by decide) ?_
  refine ev_istore_n rfl rfl rfl rfl ?_
  dsimp only [List.set]
  refine ev_aload_n rfl rfl rfl ?_
  refine ev_iconst (v := 0) rfl rfl (by decide) ?_
  refine ev_putI rfl rfl fl_X10_241 rfl rfl rfl rfl rfl ?_
  refine ev_aload_n rfl rfl rfl ?_
  refine ev_iconst (v := 0) rfl rfl (by decide) ?_
  refine ev_putI rfl rfl fl_X10_234 rfl rfl rfl rfl rfl ?_
  refine ev_aload_n rfl rfl rfl ?_
  refine ev_iconst (v := 0) rfl rfl (by decide) ?_
  refine ev_putZ rfl rfl fl_X10_237 rfl rfl rfl rfl rfl (Or.inl rfl) ?_
  refine ev_iconst (v := 1) rfl rfl (by decide) ?_
  refine ev_istore_n rfl rfl rfl rfl ?_
  dsimp only [List.set]
  refine ev_iload_n rfl rfl rfl ?_
  refine ev_if_eq rfl rfl (fun z_ => absurd z_ (by decide)) (fun c_20 => ?_)
  refine ev_aload_n rfl rfl rfl ?_
  refine ev_getI rfl rfl fl_X10_191 rfl rfl rfl ?_
  try simp (disch := omega) only [ev_rd1, ev_rd2, ev_rd3, ev_rc1, k_keep_ne]
  refine ev_if_ne rfl rfl (fun z_ => absurd hf z_) (fun c_27 => ?_)
  refine ev_aload_n rfl rfl rfl ?_
  refine ev_getI rfl rfl fl_X10_204 rfl rfl rfl ?_
  try simp (disch := omega) only [ev_rd1, ev_rd2, ev_rd3, ev_rc1, k_keep_ne]
  refine ev_iconst (v := 1) rfl rfl (by decide) ?_
  refine ev_icmp_eq rfl rfl (fun z_ => absurd z_ (by rw [hs]; decide)) (fun c_35 => ?_)
  refine ev_aload_n rfl rfl rfl ?_
  refine ev_bipush (v := 46) rfl rfl (by decide) ?_
  refine ev_V1D rfl rfl lk_X10_244 vt_X10_isSign rfl rfl rfl rfl rfl (m_isSign _ _ _ (by simp (disch := omega) only [ev_rd1, ev_rd2, ev_rd3]; rw [hs]; decide) _) ?_
  refine ev_if_eq rfl rfl (fun c_44 => ?_) (fun z_ => absurd (by decide) z_)
  refine ev_aload_n rfl rfl rfl ?_
  refine ev_getI rfl rfl fl_X10_204 rfl rfl rfl ?_
  try simp (disch := omega) only [ev_rd1, ev_rd2, ev_rd3, ev_rc1, k_keep_ne]
  refine ev_iconst (v := 2) rfl rfl (by decide) ?_
  refine ev_icmp_ne rfl rfl (fun c_81 => ?_) (fun z_ => absurd z_ (by rw [hs]; decide))
  refine ev_aload_n rfl rfl rfl ?_
  refine ev_bipush (v := 41) rfl rfl (by decide) ?_
  refine ev_V1D rfl rfl lk_X10_244 vt_X10_isSign rfl rfl rfl rfl rfl (m_isSign _ _ _ (by simp (disch := omega) only [ev_rd1, ev_rd2, ev_rd3]; rw [hs]; decide) _) ?_
  refine ev_if_eq rfl rfl (fun c_194 => ?_) (fun z_ => absurd (by decide) z_)
  refine ev_aload_n rfl rfl rfl ?_
  refine ev_aload_n rfl rfl rfl ?_
  refine ev_getI rfl rfl fl_X10_204 rfl rfl rfl ?_
  try simp (disch := omega) only [ev_rd1, ev_rd2, ev_rd3, ev_rc1, k_keep_ne]
  refine ev_if_ne rfl rfl (fun z_ => absurd hs z_) (fun c_224 => ?_)
  refine ev_aload_n rfl rfl rfl ?_
  refine ev_getI rfl rfl fl_X10_241 rfl rfl rfl ?_
  try simp (disch := omega) only [ev_rd1, ev_rd2, ev_rd3, ev_rc1, k_keep_ne]
  refine ev_if_ne rfl rfl (fun z_ => absurd rfl z_) (fun c_231 => ?_)
  refine ev_iload_n rfl rfl rfl ?_
  refine ev_if_ne rfl rfl (fun c_235 => ?_) (fun z_ => absurd z_ (by decide))
  refine ev_iconst (v := 0) rfl rfl (by decide) ?_
  refine ev_iconst (v := 2) rfl rfl (by decide) ?_
  refine ev_V2U rfl rfl lk_X10_230 vt_X10_wants rfl rfl rfl rfl rfl (m_wants _ _ _ (by first | exact hf | (simp (disch := omega) only [ev_rd1, ev_rd2, ev_rd3]; exact hf)) _) ?_
  refine ev_iconst (v := 0) rfl rfl (by decide) ?_
  refine ev_istore_n rfl rfl rfl rfl ?_
  dsimp only [List.set]
  refine ev_goto rfl rfl ?_
  refine ev_iload_n rfl rfl rfl ?_
  refine ev_if_eq rfl rfl (fun c_20b => ?_) (fun z_ => absurd (by decide) z_)
  refine ev_aload_n rfl rfl rfl ?_
  refine ev_getI rfl rfl fl_X10_191 rfl rfl rfl ?_
  try simp (disch := omega) only [ev_rd1, ev_rd2, ev_rd3, ev_rc1, k_keep_ne]
  refine ev_if_ne rfl rfl (fun c_256 => ?_) (fun z_ => absurd z_ (by decide))
  exact ev_vret rfl rfl trivial (⟨rfl, rfl, rfl⟩)

set_option maxRecDepth 100000 in
set_option maxHeartbeats 4000000 in
theorem m_tune (L : Nat) (b : Bool) (h : Hp) (ht : h 63 23 = 0) (hp : h 63 16 = 0) : EvX mi_X10_tune [.ref 63] (G0 L b) h (-10) := by
  refine EvM.of2 (lo := [some (.ref 63), none]) pf_X10_tune ok_X10_tune rfl rfl ?_
  refine ev_aload_n rfl rfl rfl ?_
  refine ev_getI rfl rfl fl_X10_257 rfl rfl rfl ?_
  refine ev_bipush (v := 6) rfl rfl (by decide) ?_
  refine ev_icmp_ne rfl rfl (fun c_6 => ?_) (fun z_ => absurd z_ (by rw [ht]; decide))
  refine ev_aload_n rfl rfl rfl ?_
  refine ev_iconst (v := 0) rfl rfl (by decide) ?_
  refine ev_putI rfl rfl fl_X10_191 rfl rfl rfl rfl rfl ?_
  refine ev_aload_n rfl rfl rfl ?_
  refine ev_iconst (v := 0) rfl rfl (by decide) ?_
  refine ev_putI rfl rfl fl_X10_210 rfl rfl rfl rfl rfl ?_
  refine ev_aload_n rfl rfl rfl ?_
  refine ev_V0U rfl rfl lk_X10_251 vt_X10_next rfl rfl rfl rfl rfl (m_next _ _ _ rfl (by simp (disch := omega) only [ev_rd1, ev_rd2, ev_rd3]; rw [hp]; exact Int32.le_refl _)) ?_
  refine ev_aload_n rfl rfl rfl ?_
  refine ev_V0U rfl rfl lk_X10_260 vt_X10_readTune rfl rfl rfl rfl rfl (m_readTune _ _ _ rfl rfl) ?_
  refine ev_aload_n rfl rfl rfl ?_
  refine ev_iconst (v := 0) rfl rfl (by decide) ?_
  refine ev_putI rfl rfl fl_X10_186 rfl rfl rfl rfl rfl ?_
  refine ev_aload_n rfl rfl rfl ?_
  refine ev_getI rfl rfl fl_X10_191 rfl rfl rfl ?_
  try simp (disch := omega) only [k_rt, ev_rd1, ev_rd2, ev_rd3]
  refine ev_if_le rfl rfl (fun z_ => absurd z_ (by decide)) (fun c_39 => ?_)
  refine ev_bipush (v := (-10)) rfl rfl (by decide) ?_
  refine ev_aload_n rfl rfl rfl ?_
  refine ev_getI rfl rfl fl_X10_194 rfl rfl rfl ?_
  try simp (disch := omega) only [k_rt, ev_rd1, ev_rd2, ev_rd3]
  refine ev_isub rfl rfl ?_
  exact ev_iret rfl rfl rfl (⟨congrArg (fun z => some (Value.int z)) (by first | decide | rfl), rfl⟩)
