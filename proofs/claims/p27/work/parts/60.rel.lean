def QL : Pst := fun v _ _ => v = some (.int 1)
def Rel (h : Hp) : Prop := h 50 2 = h 63 45
def INV (h : Hp) : Prop := Bx h ∧ (h 63 0).toInt ≤ (h 63 3).toInt ∧ KS h ∧ Rel h
theorem Rel.call {W : List (Nat × Nat)} {h h1 : Hp} (hR : Rel h) (hJ : JW W h h1) (w0 : wm W 50 2 = false) (w1 : wm W 63 45 = false) : Rel h1 := by
  have e0 := hJ.2 50 2 w0
  have e1 := hJ.2 63 45 w1
  unfold Rel at hR ⊢
  simp only [e0, e1]
  exact hR
theorem sv_call {W : List (Nat × Nat)} {h h1 : Hp} (hs : (h 63 0).toInt ≤ (h 63 3).toInt) (hJ : JW W h h1) (w0 : wm W 63 0 = false) (w3 : wm W 63 3 = false) : (h1 63 0).toInt ≤ (h1 63 3).toInt := by
  rw [hJ.2 63 0 w0, hJ.2 63 3 w3]
  exact hs
/-- the setting has no table yet -/
def FT (h : Hp) : Prop := (∀ j, h 95 j = 0) ∧ h 37 15 = 0
def SM (h1 h : Hp) : Prop := (∀ j, h1 95 j = h 95 j) ∧ h1 37 15 = h 37 15
theorem SM.refl (h : Hp) : SM h h := ⟨fun _ => rfl, rfl⟩
theorem SM.call {W : List (Nat × Nat)} {h h1 h2 : Hp} (f : SM h1 h) (hJ : JW W h1 h2) (w0 : ∀ j, wm W 95 j = false) (w1 : wm W 37 15 = false) : SM h2 h := ⟨fun j => (hJ.2 95 j (w0 j)).trans (f.1 j), (hJ.2 37 15 w1).trans f.2⟩
theorem SM.ft {h h1 : Hp} (f : SM h1 h) (q : FT h) : FT h1 := ⟨fun j => (f.1 j).trans (q.1 j), f.2.trans q.2⟩
theorem ix_in {i c : Int32} {L : Nat} (h0 : 0 ≤ i.toInt) (hi : i.toInt + 8 ≤ (L : Int)) (hL : L ≤ 4096) (hc : B c 0 7) : vp_in (i + c) L := by
  have c1 := hc.1
  have c2 := hc.2
  have e := w_add (x := i) (y := c) (by omega) (by omega)
  exact B.vp (⟨by rw [e]; omega, Int.le_refl _⟩ : B (i + c) 0 (i + c).toInt) (by decide) (by rw [e]; omega)
theorem ix_0 {i : Int32} {L : Nat} (h0 : 0 ≤ i.toInt) (hi : i.toInt + 8 ≤ (L : Int)) (hL : L ≤ 4096) : vp_in i L := B.vp (⟨h0, Int.le_refl _⟩ : B i 0 i.toInt) (by decide) (by omega)

def rb (n p l : Int32) : Int32 := if z_wi p 0 999 = 0 then -1 else if z_wi l 0 99 = 0 then -1 else if n < 4 then n + 1 - 1 else -3
def nb (n p l : Int32) : Int32 := if z_wi p 0 999 = 0 then n else if z_wi l 0 99 = 0 then n else if n < 4 then n + 1 else n
theorem w_boatX (L : Nat) (b : Bool) (h : Hp) (hB : Bx h) (p l : Int32) : EvI mi_X9_boat [.ref 1, .int p, .int l] (G0 L b) h (fun r z => r = rb (h 50 2) p l ∧ z 50 2 = nb (h 50 2) p l) [(50, 2), (51, 999), (52, 999)] := by
  have p5 : B (h 50 2) 0 4 := hB 50 2
  have hm : (h 50 2).toNatClampNeg ≤ 4 := by have := p5.nat.2; have := p5.2; omega
  refine EvM.mono (x_boat L b h _ hm p5.nat.1 p l) (fun v G' h' q => ?_)
  obtain ⟨rfl, rfl, rfl⟩ := q
  unfold rb nb k_boat z_addB
  by_cases q1 : z_wi p 0 999 = 0
  · simp only [if_pos q1]; exact ⟨⟨_, rfl, rfl, rfl⟩, rfl, JW.refl hB⟩
  · simp only [if_neg q1]
    by_cases q2 : z_wi l 0 99 = 0
    · simp only [if_pos q2]; exact ⟨⟨_, rfl, rfl, rfl⟩, rfl, JW.refl hB⟩
    · simp only [if_neg q2]
      by_cases q3 : h 50 2 < 4
      · simp only [if_pos q3]
        have b1 : B (h 50 2) 0 3 := R_ltX p5 (by decide : B 4 4 4) q3 (by decide)
        exact ⟨⟨_, rfl, rfl, ev_rd1 _ _ _ _⟩, rfl, (((JW.refl hB).set rfl (B.any _)).set rfl (B.any _)).set rfl (B.mono (B.add b1 (by decide : B 1 1 1) (by decide) (by decide)).1 (by decide) (by decide))⟩
      · simp only [if_neg q3]; exact ⟨⟨_, rfl, rfl, rfl⟩, rfl, JW.refl hB⟩

def rm4 (n p l : Int32) : Int32 := if z_wi p 0 999 = 0 then -1 else if z_wi l 0 99 = 0 then -1 else if n = 4 then -3 else n + 1 - 1
def km4 (h : Hp) (p l : Int32) : Hp := if z_wi p 0 999 = 0 then h else if z_wi l 0 99 = 0 then h else if h 63 45 = 4 then h else ev_set (ev_set (ev_set h 88 (h 63 45).toNatClampNeg p) 89 (h 63 45).toNatClampNeg l) 63 45 (h 63 45 + 1)
theorem z_bt4 {h : Hp} (hB : Bx h) (c : ¬ h 63 45 = 4) : vp_in (h 63 45) 4 := by
  have p5 : B (h 63 45) 0 4 := hB 63 45
  exact (R_neU p5 (by decide : B 4 4 4) c (by decide) : B (h 63 45) 0 3).vp (by decide) (by decide)

set_option maxRecDepth 100000 in
set_option maxHeartbeats 4000000 in
theorem c_mboat (L : Nat) (b : Bool) (h : Hp) (hB : Bx h) (p l : Int32) : EvD mi_X10_boat [.ref 63, .int p, .int l] (G0 L b) h (rm4 (h 63 45) p l) (km4 h p l) := by
  refine EvD.of (lo := [some (.ref 63), some (.int p), some (.int l)]) pf_X10_boat ok_X10_boat rfl rfl ?_
  refine ev_iload_n rfl rfl rfl ?_
  refine ev_i2l rfl rfl ?_
  refine ev_lconst (v := 0) rfl rfl rfl ?_
  refine ev_ldc2 rfl rfl kc_X10_342 ?_
  refine ev_S3D rfl rfl lk_X10_124 st_X10_in rfl rfl (c_inw _ _ _ (0) (999) (by decide) (by decide)) ?_
  refine ev_if_eq rfl rfl (fun c_9 => ?_) (fun c_9 => ?_)
  · refine ev_iconst (v := (-1)) rfl rfl (by decide) ?_
    exact ev_iret rfl rfl rfl (⟨congrArg (fun z => some (Value.int z)) (by simp only [rm4, if_pos c_9]), rfl, by simp only [km4, if_pos c_9]⟩)
  · refine ev_iload_n rfl rfl rfl ?_
    refine ev_i2l rfl rfl ?_
    refine ev_lconst (v := 0) rfl rfl rfl ?_
    refine ev_ldc2 rfl rfl kc_X10_344 ?_
    refine ev_S3D rfl rfl lk_X10_124 st_X10_in rfl rfl (c_inw _ _ _ (0) (99) (by decide) (by decide)) ?_
    refine ev_if_ne rfl rfl (fun c_21 => ?_) (fun c_21 => ?_)
    · refine ev_aload_n rfl rfl rfl ?_
      refine ev_getI rfl rfl fl_X10_346 rfl rfl rfl ?_
      try simp only [ev_rd1, ev_rd2 (by decide : (63 : Nat) ≠ 88), ev_rd2 (by decide : (63 : Nat) ≠ 89)]
      refine ev_iconst (v := 4) rfl rfl (by decide) ?_
      refine ev_icmp_ne rfl rfl (fun c_31 => ?_) (fun c_31 => ?_)
      · refine ev_aload_n rfl rfl rfl ?_
        refine ev_getR rfl rfl fl_X10_97 rfl rfl rfl rfl ?_
        refine ev_aload_n rfl rfl rfl ?_
        refine ev_getI rfl rfl fl_X10_346 rfl rfl rfl ?_
        try simp only [ev_rd1, ev_rd2 (by decide : (63 : Nat) ≠ 88), ev_rd2 (by decide : (63 : Nat) ≠ 89)]
        refine ev_iload_n rfl rfl rfl ?_
        refine ev_iast rfl rfl rfl rfl (z_bt4 hB c_31) rfl ?_
        refine ev_aload_n rfl rfl rfl ?_
        refine ev_getR rfl rfl fl_X10_100 rfl rfl rfl rfl ?_
        refine ev_aload_n rfl rfl rfl ?_
        refine ev_getI rfl rfl fl_X10_346 rfl rfl rfl ?_
        try simp only [ev_rd1, ev_rd2 (by decide : (63 : Nat) ≠ 88), ev_rd2 (by decide : (63 : Nat) ≠ 89)]
        refine ev_iload_n rfl rfl rfl ?_
        refine ev_iast rfl rfl rfl rfl (z_bt4 hB c_31) rfl ?_
        refine ev_aload_n rfl rfl rfl ?_
        refine ev_dup rfl rfl rfl ?_
        refine ev_getI rfl rfl fl_X10_346 rfl rfl rfl ?_
        try simp only [ev_rd1, ev_rd2 (by decide : (63 : Nat) ≠ 88), ev_rd2 (by decide : (63 : Nat) ≠ 89)]
        refine ev_iconst (v := 1) rfl rfl (by decide) ?_
        refine ev_iadd rfl rfl ?_
        refine ev_putI rfl rfl fl_X10_346 rfl rfl rfl rfl rfl ?_
        refine ev_aload_n rfl rfl rfl ?_
        refine ev_getI rfl rfl fl_X10_346 rfl rfl rfl ?_
        try simp only [ev_rd1, ev_rd2 (by decide : (63 : Nat) ≠ 88), ev_rd2 (by decide : (63 : Nat) ≠ 89)]
        refine ev_iconst (v := 1) rfl rfl (by decide) ?_
        refine ev_isub rfl rfl ?_
        exact ev_iret rfl rfl rfl (⟨congrArg (fun z => some (Value.int z)) (by simp only [rm4, if_neg c_9, if_neg c_21, if_neg c_31]), rfl, by simp only [km4, if_neg c_9, if_neg c_21, if_neg c_31]⟩)
      · refine ev_bipush (v := (-3)) rfl rfl (by decide) ?_
        exact ev_iret rfl rfl rfl (⟨congrArg (fun z => some (Value.int z)) (by simp only [rm4, if_neg c_9, if_neg c_21, if_pos c_31]), rfl, by simp only [km4, if_neg c_9, if_neg c_21, if_pos c_31]⟩)
    · refine ev_iconst (v := (-1)) rfl rfl (by decide) ?_
      exact ev_iret rfl rfl rfl (⟨congrArg (fun z => some (Value.int z)) (by simp only [rm4, if_neg c_9, if_pos c_21]), rfl, by simp only [km4, if_neg c_9, if_pos c_21]⟩)

theorem w_mboatX (L : Nat) (b : Bool) (h : Hp) (hB : Bx h) (p l : Int32) : EvI mi_X10_boat [.ref 63, .int p, .int l] (G0 L b) h (fun r z => r = rb (h 63 45) p l ∧ z 63 45 = nb (h 63 45) p l) [(63, 45), (88, 999), (89, 999)] := by
  have p5 : B (h 63 45) 0 4 := hB 63 45
  refine EvM.mono (c_mboat L b h hB p l) (fun v G' h' q => ?_)
  obtain ⟨rfl, rfl, rfl⟩ := q
  unfold rb nb km4 rm4
  by_cases q1 : z_wi p 0 999 = 0
  · simp only [if_pos q1]; exact ⟨⟨_, rfl, rfl, rfl⟩, rfl, JW.refl hB⟩
  · simp only [if_neg q1]
    by_cases q2 : z_wi l 0 99 = 0
    · simp only [if_pos q2]; exact ⟨⟨_, rfl, rfl, rfl⟩, rfl, JW.refl hB⟩
    · simp only [if_neg q2]
      by_cases q3 : h 63 45 = 4
      · have q4 : ¬ h 63 45 < 4 := by rw [q3]; decide
        simp only [if_pos q3, if_neg q4]; exact ⟨⟨_, rfl, rfl, rfl⟩, rfl, JW.refl hB⟩
      · have b1 : B (h 63 45) 0 3 := R_neU p5 (by decide : B 4 4 4) q3 (by decide)
        have q4 : h 63 45 < 4 := D_lt b1 (by decide : B 4 4 4) (by decide)
        simp only [if_neg q3, if_pos q4]
        exact ⟨⟨_, rfl, rfl, ev_rd1 _ _ _ _⟩, rfl, (((JW.refl hB).set rfl (B.any _)).set rfl (B.any _)).set rfl (B.mono (B.add b1 (by decide : B 1 1 1) (by decide) (by decide)).1 (by decide) (by decide))⟩
