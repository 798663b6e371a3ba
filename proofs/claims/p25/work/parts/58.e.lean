set_option maxRecDepth 100000 in
set_option maxHeartbeats 4000000 in
theorem c_spotE (L : Nat) (b : Bool) (h : Hp) (i r p : Nat) : EvD mi_X10_spot [.ref 63, .int (nI i), .int (nI r), .int (nI p)] (G0 L b) h (nI (1809 * i + 201 * r + p)) (h) := by
  refine EvD.of (lo := [some (.ref 63), some (.int (nI i)), some (.int (nI r)), some (.int (nI p))]) pf_X10_spot ok_X10_spot rfl rfl ?_
  refine ev_sipush (v := 1809) rfl rfl (by decide) ?_
  refine ev_iload_n rfl rfl rfl ?_
  refine ev_imulV (v := nI (1809 * i)) (nI_mul 1809 i).symm rfl rfl ?_
  refine ev_sipush (v := 201) rfl rfl (by decide) ?_
  refine ev_iload_n rfl rfl rfl ?_
  refine ev_imulV (v := nI (201 * r)) (nI_mul 201 r).symm rfl rfl ?_
  refine ev_iaddV (v := nI (1809 * i + 201 * r)) (nI_ad _ _).symm rfl rfl ?_
  refine ev_iload_n rfl rfl rfl ?_
  refine ev_iaddV (v := nI (1809 * i + 201 * r + p)) (nI_ad _ _).symm rfl rfl ?_
  exact ev_iret rfl rfl rfl (⟨rfl, rfl, rfl⟩)

def bB (f : Nat → Nat) (al k : Nat) : Int32 := if k = 0 then -1000000 else nI (f (q_mbx f al k))
def k_bs (h : Hp) (f : Nat → Nat) (al k : Nat) : Hp := if k = 0 then h else ev_set h 63 35 (nI (q_mbx f al k))
theorem k_bs_1 (h : Hp) (f : Nat → Nat) (al k : Nat) : k_bs h f al (k + 1) = ev_set h 63 35 (nI (q_mbx f al (k + 1))) := if_neg (Nat.succ_ne_zero k)
theorem k_bs_ne {h : Hp} {f : Nat → Nat} {al k i j : Nat} (hi : ¬ (i = 63 ∧ j = 35)) : k_bs h f al k i j = h i j := by
  unfold k_bs
  split
  · rfl
  · exact if_neg hi
theorem bB_le {f : Nat → Nat} {al k : Nat} (hf : ∀ z, f z < 2 ^ 30) (c : nI (f (sbm al k)) ≤ bB f al k) : k ≠ 0 ∧ q_mbx f al (k + 1) = q_mbx f al k ∧ bB f al k = bB f al (k + 1) := by
  have k0 : k ≠ 0 := fun z => by
    subst z
    have y := w_le c
    have e : (-1000000 : Int32).toInt = -1000000 := by decide
    rw [nI_toInt (by have := hf (sbm al 0); omega)] at y
    have e2 : bB f al 0 = -1000000 := rfl
    rw [e2, e] at y
    omega
  have e1 : bB f al k = nI (f (q_mbx f al k)) := if_neg k0
  rw [e1, nI_le2 (by have := hf (sbm al k); omega) (by have := hf (q_mbx f al k); omega)] at c
  have e2 : q_mbx f al (k + 1) = q_mbx f al k := if_neg (by omega)
  refine ⟨k0, e2, ?_⟩
  rw [e1]
  show _ = nI (f (q_mbx f al (k + 1)))
  rw [e2]
theorem bB_gt {f : Nat → Nat} {al k : Nat} (hf : ∀ z, f z < 2 ^ 30) (c : ¬ nI (f (sbm al k)) ≤ bB f al k) : q_mbx f al (k + 1) = sbm al k ∧ bB f al (k + 1) = nI (f (sbm al k)) := by
  have e : q_mbx f al (k + 1) = sbm al k := by
    by_cases k0 : k = 0
    · subst k0
      unfold q_mbx
      split
      · rfl
      · rfl
    · have e1 : bB f al k = nI (f (q_mbx f al k)) := if_neg k0
      rw [e1, nI_le2 (by have := hf (sbm al k); omega) (by have := hf (q_mbx f al k); omega)] at c
      exact if_pos (by omega)
  refine ⟨e, ?_⟩
  show nI (f (q_mbx f al (k + 1))) = _
  rw [e]
theorem k_bs_g {h : Hp} {f : Nat → Nat} {al k : Nat} : ev_set (k_bs h f al k) 63 35 (nI (q_mbx f al (k + 1))) = k_bs h f al (k + 1) := by
  rw [k_bs_1]
  unfold k_bs
  split
  · rfl
  · exact ev_ss _ _ _ _ _
theorem k_bs_l {h : Hp} {f : Nat → Nat} {al k : Nat} (k0 : k ≠ 0) (e : q_mbx f al (k + 1) = q_mbx f al k) : k_bs h f al k = k_bs h f al (k + 1) := by
  rw [k_bs_1, e]
  exact if_neg k0
theorem B35 {x : Nat} (hx : x < 4096) : B (nI x) 0 4095 := nI_B (by omega) (by omega)

set_option maxRecDepth 100000 in
set_option maxHeartbeats 4000000 in
theorem l_bsE (L : Nat) (b : Bool) (h : Hp) (f : Nat → Nat) (c i r p al : Nat) (x : Int32) (a9 : Option Value) : EvQ mi_X10_bestSound 23 [some (.ref 63), some (.int (nI c)), some (.int (nI i)), some (.int (nI r)), some (.int (nI p)), some (.int (nI (f (q_bsx f al)))), some (.int (nI al)), some (.int x), some (.int 0), a9] [] (G0 L b) (ev_set h 63 35 (nI (q_bsx f al))) 0 0 (fun v G' h' => v = some (.int (nI (f (q_bsx f al)))) ∧ G' = G0 L b ∧ h' = ev_set h 63 35 (nI (q_bsx f al))) := by
  refine ev_iload rfl rfl rfl ?_
  refine ev_if_eq rfl rfl (fun c_25 => ?_) (fun z_ => absurd (by decide) z_)
  refine ev_iload rfl rfl rfl ?_
  exact ev_iret rfl rfl rfl (⟨rfl, rfl, rfl⟩)

set_option maxRecDepth 100000 in
set_option maxHeartbeats 4000000 in
theorem l_bs (L : Nat) (b : Bool) (h : Hp) (m : Nat) (hm0 : m ≤ 12) (D : Nat → Int32) (N : Nat → Nat → Nat) (hN : ∀ p y, y < 2 ^ m → nI (N p y) = zth h (nI p) (D y)) (hNV : ∀ p y, N p y ≤ 200) (c ap al : Nat) (hal : c &&& ap = al) (bal : al < 2 ^ m) (i : Nat) (hi : i < 24) (r : Nat) (hr : r ≤ 8) (p : Nat) (hp : p ≤ 200) (e81 : h 81 p = nI ap) (e82 : ∀ x, x < 2 ^ m → h 82 x = D x) (e83 : ∀ x, x < 2 ^ m → h 83 x = nI (q_pop x)) (F : Nat → Nat) (bF : ∀ q, F q ≤ 5000) (eT : ∀ y, y &&& al = y → h 78 (1809 * (i + 1) + 201 * r + (N p y)) = nI (F (N p y))) : ∀ t k : Nat, sbm al k ≤ t → EvQ mi_X10_bestSound 23 [some (.ref 63), some (.int (nI c)), some (.int (nI i)), some (.int (nI r)), some (.int (nI p)), some (.int (bB (q_wr 16 N F p) al k)), some (.int (nI al)), some (.int (nI (sbm al k))), some (.int 1), none] [] (G0 L b) (k_bs h (q_wr 16 N F p) al k) 0 0 (fun v G' h' => v = some (.int (nI ((q_wr 16 N F p) (q_bsx (q_wr 16 N F p) al)))) ∧ G' = G0 L b ∧ h' = ev_set h 63 35 (nI (q_bsx (q_wr 16 N F p) al))) := by
  have p12 : 2 ^ m ≤ 4096 := (Nat.pow_le_pow_right (n := 2) (by decide) hm0 : 2 ^ m ≤ 2 ^ 12)
  have hf : ∀ z, (q_wr 16 N F p) z < 2 ^ 30 := fun z => by have := q_wr_le (K := 16) (N := N) (p := p) bF z; omega
  intro t
  induction t with
  | zero =>
    intro k hk
    have z0 : sbm al k = 0 := by omega
    have sl : sbm al k < 2 ^ m := Nat.lt_of_le_of_lt (sbm_le al k) bal
    have nv := hNV p (sbm al k)
    refine ev_iload rfl rfl rfl ?_
    refine ev_if_eq rfl rfl (fun z_ => absurd z_ (by decide)) (fun c_25 => ?_)
    refine ev_bipush (v := 16) rfl rfl (by decide) ?_
    refine ev_aload_n rfl rfl rfl ?_
    refine ev_getR rfl rfl fl_X10_82 rfl rfl rfl rfl ?_
    refine ev_iload rfl rfl rfl ?_
    refine ev_iadV (j := sbm al k) (v := nI (q_pop (sbm al k))) rfl rfl rfl (vp_in_nI (by omega) (by decide)) (nI_clamp (by omega)) ((k_bs_ne (fun z => absurd z.1 (by decide))).trans (e83 _ sl)) ?_
    refine ev_imulV (v := nI (16 * q_pop (sbm al k))) (nI_mul 16 _).symm rfl rfl ?_
    refine ev_aload_n rfl rfl rfl ?_
    refine ev_getR rfl rfl fl_X10_67 rfl rfl rfl rfl ?_
    refine ev_aload_n rfl rfl rfl ?_
    refine ev_iload_n rfl rfl rfl ?_
    refine ev_iconst (v := 1) rfl rfl (by decide) ?_
    refine ev_iaddV (v := nI (i + 1)) (nI_1 i).symm rfl rfl ?_
    refine ev_iload_n rfl rfl rfl ?_
    refine ev_aload_n rfl rfl rfl ?_
    refine ev_iload rfl rfl rfl ?_
    refine ev_aload_n rfl rfl rfl ?_
    refine ev_getR rfl rfl fl_X10_79 rfl rfl rfl rfl ?_
    refine ev_iload rfl rfl rfl ?_
    refine ev_iadV (j := sbm al k) (v := D (sbm al k)) rfl rfl rfl (vp_in_nI (by omega) (by decide)) (nI_clamp (by omega)) ((k_bs_ne (fun z => absurd z.1 (by decide))).trans (e82 _ sl)) ?_
    refine ev_V2D rfl rfl lk_X10_297 vt_X10_then rfl rfl rfl rfl rfl (EvD.to (c_mthen L b _ (nI p) (D (sbm al k))) (show _ = nI (N p (sbm al k)) from by rw [zth_congr (k_bs_ne (fun z => absurd z.2 (by decide))) (k_bs_ne (fun z => absurd z.2 (by decide)))]; exact (hN p _ sl).symm) rfl) ?_
    refine ev_V3D rfl rfl lk_X10_293 vt_X10_spot rfl rfl rfl rfl rfl (c_spotE L b _ (i + 1) r (N p (sbm al k))) ?_
    refine ev_iadV (j := (1809 * (i + 1) + 201 * r + (N p (sbm al k)))) (v := nI (F (N p (sbm al k)))) rfl rfl rfl (vp_in_nI (by omega) (by decide)) (nI_clamp (by omega)) ((k_bs_ne (fun z => absurd z.1 (by decide))).trans (eT _ (sbm_sub al k))) ?_
    refine ev_iaddV (v := nI ((q_wr 16 N F p) (sbm al k))) (nI_ad _ _).symm rfl rfl ?_
    refine ev_istore rfl rfl rfl rfl ?_
    dsimp only [List.set]
    refine ev_iload rfl rfl rfl ?_
    refine ev_iload rfl rfl rfl ?_
    refine ev_icmp_le rfl rfl (fun c_71 => ?_) (fun c_71 => ?_)
    · refine ev_iload rfl rfl rfl ?_
      refine ev_if_eq rfl rfl (fun c_86 => ?_) (fun z_ => absurd (show nI (sbm al k) = 0 by rw [z0]; rfl) z_)
      refine ev_iconst (v := 0) rfl rfl (by decide) ?_
      refine ev_istore rfl rfl rfl rfl ?_
      dsimp only [List.set]
      refine ev_iload rfl rfl rfl ?_
      refine ev_iconst (v := 1) rfl rfl (by decide) ?_
      refine ev_isub rfl rfl ?_
      refine ev_iload rfl rfl rfl ?_
      refine ev_iand rfl rfl ?_
      refine ev_istore rfl rfl rfl rfl ?_
      dsimp only [List.set]
      refine ev_goto rfl rfl ?_
      obtain ⟨k0, eb, bb⟩ := bB_le hf c_71
      refine EvQ.hp (k_bs h (q_wr 16 N F p) al (k + 1)) (k_bs_l k0 eb) ?_
      rw [bb]
      have me : q_mbx (q_wr 16 N F p) al (k + 1) = q_bsx (q_wr 16 N F p) al := q_mbx_end z0
      rw [k_bs_1, show bB (q_wr 16 N F p) al (k + 1) = nI ((q_wr 16 N F p) (q_mbx (q_wr 16 N F p) al (k + 1))) from rfl, me]
      exact l_bsE L b h (q_wr 16 N F p) c i r p al _ _
    · refine ev_iload rfl rfl rfl ?_
      refine ev_istore rfl rfl rfl rfl ?_
      dsimp only [List.set]
      refine ev_aload_n rfl rfl rfl ?_
      refine ev_iload rfl rfl rfl ?_
      refine ev_putI rfl rfl fl_X10_301 rfl rfl rfl rfl rfl ?_
      refine ev_iload rfl rfl rfl ?_
      refine ev_if_eq rfl rfl (fun c_86 => ?_) (fun z_ => absurd (show nI (sbm al k) = 0 by rw [z0]; rfl) z_)
      refine ev_iconst (v := 0) rfl rfl (by decide) ?_
      refine ev_istore rfl rfl rfl rfl ?_
      dsimp only [List.set]
      refine ev_iload rfl rfl rfl ?_
      refine ev_iconst (v := 1) rfl rfl (by decide) ?_
      refine ev_isub rfl rfl ?_
      refine ev_iload rfl rfl rfl ?_
      refine ev_iand rfl rfl ?_
      refine ev_istore rfl rfl rfl rfl ?_
      dsimp only [List.set]
      refine ev_goto rfl rfl ?_
      obtain ⟨eb, bb⟩ := bB_gt hf c_71
      refine EvQ.hp (k_bs h (q_wr 16 N F p) al (k + 1)) (by rw [← eb]; exact k_bs_g) ?_
      rw [← bb]
      have me : q_mbx (q_wr 16 N F p) al (k + 1) = q_bsx (q_wr 16 N F p) al := q_mbx_end z0
      rw [k_bs_1, show bB (q_wr 16 N F p) al (k + 1) = nI ((q_wr 16 N F p) (q_mbx (q_wr 16 N F p) al (k + 1))) from rfl, me]
      exact l_bsE L b h (q_wr 16 N F p) c i r p al _ _
  | succ t ih =>
    intro k hk
    have sl : sbm al k < 2 ^ m := Nat.lt_of_le_of_lt (sbm_le al k) bal
    have nv := hNV p (sbm al k)
    by_cases z0 : sbm al k = 0
    · skip
      refine ev_iload rfl rfl rfl ?_
      refine ev_if_eq rfl rfl (fun z_ => absurd z_ (by decide)) (fun c_25 => ?_)
      refine ev_bipush (v := 16) rfl rfl (by decide) ?_
      refine ev_aload_n rfl rfl rfl ?_
      refine ev_getR rfl rfl fl_X10_82 rfl rfl rfl rfl ?_
      refine ev_iload rfl rfl rfl ?_
      refine ev_iadV (j := sbm al k) (v := nI (q_pop (sbm al k))) rfl rfl rfl (vp_in_nI (by omega) (by decide)) (nI_clamp (by omega)) ((k_bs_ne (fun z => absurd z.1 (by decide))).trans (e83 _ sl)) ?_
      refine ev_imulV (v := nI (16 * q_pop (sbm al k))) (nI_mul 16 _).symm rfl rfl ?_
      refine ev_aload_n rfl rfl rfl ?_
      refine ev_getR rfl rfl fl_X10_67 rfl rfl rfl rfl ?_
      refine ev_aload_n rfl rfl rfl ?_
      refine ev_iload_n rfl rfl rfl ?_
      refine ev_iconst (v := 1) rfl rfl (by decide) ?_
      refine ev_iaddV (v := nI (i + 1)) (nI_1 i).symm rfl rfl ?_
      refine ev_iload_n rfl rfl rfl ?_
      refine ev_aload_n rfl rfl rfl ?_
      refine ev_iload rfl rfl rfl ?_
      refine ev_aload_n rfl rfl rfl ?_
      refine ev_getR rfl rfl fl_X10_79 rfl rfl rfl rfl ?_
      refine ev_iload rfl rfl rfl ?_
      refine ev_iadV (j := sbm al k) (v := D (sbm al k)) rfl rfl rfl (vp_in_nI (by omega) (by decide)) (nI_clamp (by omega)) ((k_bs_ne (fun z => absurd z.1 (by decide))).trans (e82 _ sl)) ?_
      refine ev_V2D rfl rfl lk_X10_297 vt_X10_then rfl rfl rfl rfl rfl (EvD.to (c_mthen L b _ (nI p) (D (sbm al k))) (show _ = nI (N p (sbm al k)) from by rw [zth_congr (k_bs_ne (fun z => absurd z.2 (by decide))) (k_bs_ne (fun z => absurd z.2 (by decide)))]; exact (hN p _ sl).symm) rfl) ?_
      refine ev_V3D rfl rfl lk_X10_293 vt_X10_spot rfl rfl rfl rfl rfl (c_spotE L b _ (i + 1) r (N p (sbm al k))) ?_
      refine ev_iadV (j := (1809 * (i + 1) + 201 * r + (N p (sbm al k)))) (v := nI (F (N p (sbm al k)))) rfl rfl rfl (vp_in_nI (by omega) (by decide)) (nI_clamp (by omega)) ((k_bs_ne (fun z => absurd z.1 (by decide))).trans (eT _ (sbm_sub al k))) ?_
      refine ev_iaddV (v := nI ((q_wr 16 N F p) (sbm al k))) (nI_ad _ _).symm rfl rfl ?_
      refine ev_istore rfl rfl rfl rfl ?_
      dsimp only [List.set]
      refine ev_iload rfl rfl rfl ?_
      refine ev_iload rfl rfl rfl ?_
      refine ev_icmp_le rfl rfl (fun c_71 => ?_) (fun c_71 => ?_)
      · refine ev_iload rfl rfl rfl ?_
        refine ev_if_eq rfl rfl (fun c_86 => ?_) (fun z_ => absurd (show nI (sbm al k) = 0 by rw [z0]; rfl) z_)
        refine ev_iconst (v := 0) rfl rfl (by decide) ?_
        refine ev_istore rfl rfl rfl rfl ?_
        dsimp only [List.set]
        refine ev_iload rfl rfl rfl ?_
        refine ev_iconst (v := 1) rfl rfl (by decide) ?_
        refine ev_isub rfl rfl ?_
        refine ev_iload rfl rfl rfl ?_
        refine ev_iand rfl rfl ?_
        refine ev_istore rfl rfl rfl rfl ?_
        dsimp only [List.set]
        refine ev_goto rfl rfl ?_
        obtain ⟨k0, eb, bb⟩ := bB_le hf c_71
        refine EvQ.hp (k_bs h (q_wr 16 N F p) al (k + 1)) (k_bs_l k0 eb) ?_
        rw [bb]
        have me : q_mbx (q_wr 16 N F p) al (k + 1) = q_bsx (q_wr 16 N F p) al := q_mbx_end z0
        rw [k_bs_1, show bB (q_wr 16 N F p) al (k + 1) = nI ((q_wr 16 N F p) (q_mbx (q_wr 16 N F p) al (k + 1))) from rfl, me]
        exact l_bsE L b h (q_wr 16 N F p) c i r p al _ _
      · refine ev_iload rfl rfl rfl ?_
        refine ev_istore rfl rfl rfl rfl ?_
        dsimp only [List.set]
        refine ev_aload_n rfl rfl rfl ?_
        refine ev_iload rfl rfl rfl ?_
        refine ev_putI rfl rfl fl_X10_301 rfl rfl rfl rfl rfl ?_
        refine ev_iload rfl rfl rfl ?_
        refine ev_if_eq rfl rfl (fun c_86 => ?_) (fun z_ => absurd (show nI (sbm al k) = 0 by rw [z0]; rfl) z_)
        refine ev_iconst (v := 0) rfl rfl (by decide) ?_
        refine ev_istore rfl rfl rfl rfl ?_
        dsimp only [List.set]
        refine ev_iload rfl rfl rfl ?_
        refine ev_iconst (v := 1) rfl rfl (by decide) ?_
        refine ev_isub rfl rfl ?_
        refine ev_iload rfl rfl rfl ?_
        refine ev_iand rfl rfl ?_
        refine ev_istore rfl rfl rfl rfl ?_
        dsimp only [List.set]
        refine ev_goto rfl rfl ?_
        obtain ⟨eb, bb⟩ := bB_gt hf c_71
        refine EvQ.hp (k_bs h (q_wr 16 N F p) al (k + 1)) (by rw [← eb]; exact k_bs_g) ?_
        rw [← bb]
        have me : q_mbx (q_wr 16 N F p) al (k + 1) = q_bsx (q_wr 16 N F p) al := q_mbx_end z0
        rw [k_bs_1, show bB (q_wr 16 N F p) al (k + 1) = nI ((q_wr 16 N F p) (q_mbx (q_wr 16 N F p) al (k + 1))) from rfl, me]
        exact l_bsE L b h (q_wr 16 N F p) c i r p al _ _
    · skip
      refine ev_iload rfl rfl rfl ?_
      refine ev_if_eq rfl rfl (fun z_ => absurd z_ (by decide)) (fun c_25 => ?_)
      refine ev_bipush (v := 16) rfl rfl (by decide) ?_
      refine ev_aload_n rfl rfl rfl ?_
      refine ev_getR rfl rfl fl_X10_82 rfl rfl rfl rfl ?_
      refine ev_iload rfl rfl rfl ?_
      refine ev_iadV (j := sbm al k) (v := nI (q_pop (sbm al k))) rfl rfl rfl (vp_in_nI (by omega) (by decide)) (nI_clamp (by omega)) ((k_bs_ne (fun z => absurd z.1 (by decide))).trans (e83 _ sl)) ?_
      refine ev_imulV (v := nI (16 * q_pop (sbm al k))) (nI_mul 16 _).symm rfl rfl ?_
      refine ev_aload_n rfl rfl rfl ?_
      refine ev_getR rfl rfl fl_X10_67 rfl rfl rfl rfl ?_
      refine ev_aload_n rfl rfl rfl ?_
      refine ev_iload_n rfl rfl rfl ?_
      refine ev_iconst (v := 1) rfl rfl (by decide) ?_
      refine ev_iaddV (v := nI (i + 1)) (nI_1 i).symm rfl rfl ?_
      refine ev_iload_n rfl rfl rfl ?_
      refine ev_aload_n rfl rfl rfl ?_
      refine ev_iload rfl rfl rfl ?_
      refine ev_aload_n rfl rfl rfl ?_
      refine ev_getR rfl rfl fl_X10_79 rfl rfl rfl rfl ?_
      refine ev_iload rfl rfl rfl ?_
      refine ev_iadV (j := sbm al k) (v := D (sbm al k)) rfl rfl rfl (vp_in_nI (by omega) (by decide)) (nI_clamp (by omega)) ((k_bs_ne (fun z => absurd z.1 (by decide))).trans (e82 _ sl)) ?_
      refine ev_V2D rfl rfl lk_X10_297 vt_X10_then rfl rfl rfl rfl rfl (EvD.to (c_mthen L b _ (nI p) (D (sbm al k))) (show _ = nI (N p (sbm al k)) from by rw [zth_congr (k_bs_ne (fun z => absurd z.2 (by decide))) (k_bs_ne (fun z => absurd z.2 (by decide)))]; exact (hN p _ sl).symm) rfl) ?_
      refine ev_V3D rfl rfl lk_X10_293 vt_X10_spot rfl rfl rfl rfl rfl (c_spotE L b _ (i + 1) r (N p (sbm al k))) ?_
      refine ev_iadV (j := (1809 * (i + 1) + 201 * r + (N p (sbm al k)))) (v := nI (F (N p (sbm al k)))) rfl rfl rfl (vp_in_nI (by omega) (by decide)) (nI_clamp (by omega)) ((k_bs_ne (fun z => absurd z.1 (by decide))).trans (eT _ (sbm_sub al k))) ?_
      refine ev_iaddV (v := nI ((q_wr 16 N F p) (sbm al k))) (nI_ad _ _).symm rfl rfl ?_
      refine ev_istore rfl rfl rfl rfl ?_
      dsimp only [List.set]
      refine ev_iload rfl rfl rfl ?_
      refine ev_iload rfl rfl rfl ?_
      refine ev_icmp_le rfl rfl (fun c_71 => ?_) (fun c_71 => ?_)
      · refine ev_iload rfl rfl rfl ?_
        refine ev_if_eq rfl rfl (fun z_ => absurd z_ (nI_z (by omega) z0)) (fun c_86 => ?_)
        refine ev_iconst (v := 1) rfl rfl (by decide) ?_
        refine ev_goto rfl rfl ?_
        refine ev_istore rfl rfl rfl rfl ?_
        dsimp only [List.set]
        refine ev_iload rfl rfl rfl ?_
        refine ev_iconst (v := 1) rfl rfl (by decide) ?_
        refine ev_isub rfl rfl ?_
        refine ev_iload rfl rfl rfl ?_
        refine ev_iand rfl rfl ?_
        rw [sbm_nx (by omega) z0]
        refine ev_istore rfl rfl rfl rfl ?_
        dsimp only [List.set]
        refine ev_goto rfl rfl ?_
        obtain ⟨k0, eb, bb⟩ := bB_le hf c_71
        refine EvQ.hp (k_bs h (q_wr 16 N F p) al (k + 1)) (k_bs_l k0 eb) ?_
        rw [bb]
        exact EvQ.drop 9 (ih (k + 1) (by have := sbm_p al k; omega))
      · refine ev_iload rfl rfl rfl ?_
        refine ev_istore rfl rfl rfl rfl ?_
        dsimp only [List.set]
        refine ev_aload_n rfl rfl rfl ?_
        refine ev_iload rfl rfl rfl ?_
        refine ev_putI rfl rfl fl_X10_301 rfl rfl rfl rfl rfl ?_
        refine ev_iload rfl rfl rfl ?_
        refine ev_if_eq rfl rfl (fun z_ => absurd z_ (nI_z (by omega) z0)) (fun c_86 => ?_)
        refine ev_iconst (v := 1) rfl rfl (by decide) ?_
        refine ev_goto rfl rfl ?_
        refine ev_istore rfl rfl rfl rfl ?_
        dsimp only [List.set]
        refine ev_iload rfl rfl rfl ?_
        refine ev_iconst (v := 1) rfl rfl (by decide) ?_
        refine ev_isub rfl rfl ?_
        refine ev_iload rfl rfl rfl ?_
        refine ev_iand rfl rfl ?_
        rw [sbm_nx (by omega) z0]
        refine ev_istore rfl rfl rfl rfl ?_
        dsimp only [List.set]
        refine ev_goto rfl rfl ?_
        obtain ⟨eb, bb⟩ := bB_gt hf c_71
        refine EvQ.hp (k_bs h (q_wr 16 N F p) al (k + 1)) (by rw [← eb]; exact k_bs_g) ?_
        rw [← bb]
        exact EvQ.drop 9 (ih (k + 1) (by have := sbm_p al k; omega))

set_option maxRecDepth 100000 in
set_option maxHeartbeats 4000000 in
theorem c_bestSound (L : Nat) (b : Bool) (h : Hp) (m : Nat) (hm0 : m ≤ 12) (D : Nat → Int32) (N : Nat → Nat → Nat) (hN : ∀ p y, y < 2 ^ m → nI (N p y) = zth h (nI p) (D y)) (hNV : ∀ p y, N p y ≤ 200) (c ap al : Nat) (hal : c &&& ap = al) (bal : al < 2 ^ m) (i : Nat) (hi : i < 24) (r : Nat) (hr : r ≤ 8) (p : Nat) (hp : p ≤ 200) (e81 : h 81 p = nI ap) (e82 : ∀ x, x < 2 ^ m → h 82 x = D x) (e83 : ∀ x, x < 2 ^ m → h 83 x = nI (q_pop x)) (F : Nat → Nat) (bF : ∀ q, F q ≤ 5000) (eT : ∀ y, y &&& al = y → h 78 (1809 * (i + 1) + 201 * r + (N p y)) = nI (F (N p y)))  : EvD mi_X10_bestSound [.ref 63, .int (nI c), .int (nI i), .int (nI r), .int (nI p)] (G0 L b) h (nI ((q_wr 16 N F p) (q_bsx (q_wr 16 N F p) al))) ((ev_set h 63 35 (nI (q_bsx (q_wr 16 N F p) al)))) := by
  refine EvD.of (lo := [some (.ref 63), some (.int (nI c)), some (.int (nI i)), some (.int (nI r)), some (.int (nI p)), none, none, none, none, none]) pf_X10_bestSound ok_X10_bestSound rfl rfl ?_
  refine ev_ldcw rfl rfl kc_X10_300 ?_
  refine ev_istore rfl rfl rfl rfl ?_
  dsimp only [List.set]
  refine ev_iload_n rfl rfl rfl ?_
  refine ev_aload_n rfl rfl rfl ?_
  refine ev_getR rfl rfl fl_X10_76 rfl rfl rfl rfl ?_
  refine ev_iload rfl rfl rfl ?_
  refine ev_iald rfl rfl rfl (vp_in_nI (by omega) (by decide)) (nI_clamp (by omega)) ?_
  try simp only [e81]
  refine ev_iand rfl rfl ?_
  rw [nI_and, hal]
  refine ev_istore rfl rfl rfl rfl ?_
  dsimp only [List.set]
  refine ev_iload rfl rfl rfl ?_
  refine ev_istore rfl rfl rfl rfl ?_
  dsimp only [List.set]
  refine ev_iconst (v := 1) rfl rfl (by decide) ?_
  refine ev_istore rfl rfl rfl rfl ?_
  dsimp only [List.set]
  exact l_bs L b h m hm0 D N hN hNV c ap al hal bal i hi r hr p hp e81 e82 e83 F bF eT al 0 (Nat.le_refl _)
