def v_ls (a : Int32) : Nat → Int32
  | 0 => -4
  | k + 1 => if a >>> (nI k &&& 31) &&& 1 = 1 then (if v_ls a k = -4 then nI k else v_ls a k) else v_ls a k
def v_gr (a : Int32) : Nat → Int32
  | 0 => -4
  | k + 1 => if a >>> (nI k &&& 31) &&& 1 = 1 then nI k else v_gr a k
set_option maxRecDepth 100000 in
set_option maxHeartbeats 4000000 in
theorem c_misTune (L : Nat) (b : Bool) (h : Hp) (hB : Bx h) (t : Int32) : EvD mi_X10_isTune [.ref 63, .int t] (G0 L b) h (z_has t (h 63 23)) (h) := by
  refine EvD.of (lo := [some (.ref 63), some (.int t)]) pf_X10_isTune ok_X10_isTune rfl rfl ?_
  refine ev_iload_n rfl rfl rfl ?_
  refine ev_i2l rfl rfl ?_
  refine ev_lconst (v := 0) rfl rfl rfl ?_
  refine ev_aload_n rfl rfl rfl ?_
  refine ev_getI rfl rfl fl_X10_257 rfl rfl rfl ?_
  refine ev_iconst (v := 1) rfl rfl (by decide) ?_
  refine ev_isub rfl rfl ?_
  refine ev_i2l rfl rfl ?_
  refine ev_S3D rfl rfl lk_X10_124 st_X10_in rfl rfl (c_inw _ _ _ (0) (h 63 23 - 1) (by decide) rfl) ?_
  rw [z_wi_has ((show B (h 63 23) 0 6 from hB 63 23).mono (by decide) (by decide))]
  exact ev_iret rfl rfl (z_has_b _ _) (⟨rfl, rfl, rfl⟩)

def tf_ck (n : Nat) : Bool := decide (z_ls (nI n) = v_ls (nI n) 12) && decide (z_gr (nI n) = v_gr (nI n) 12) && decide (z_bc (nI n) = s_bits (nI n) 12)
theorem tf_all : ck_all tf_ck 4096 = true := by decide +kernel
theorem tf_of {x : Int32} (h : B x 0 4095) : z_ls x = v_ls x 12 ∧ z_gr x = v_gr x 12 ∧ z_bc x = s_bits x 12 := by
  have p : B x 0 ((4095 : Nat) : Int) := h
  have l := (B.nI p).2
  have e := ck_at tf_all x.toNatClampNeg (by omega)
  unfold tf_ck at e
  rw [Bool.and_eq_true, Bool.and_eq_true, decide_eq_true_eq, decide_eq_true_eq, decide_eq_true_eq] at e
  rw [← (B.nI p).1] at e
  exact ⟨e.1.1, e.1.2, e.2⟩
theorem or_eq {h : Hp} {n : Nat} : ∀ m, (∀ i, i < m → h (30 + n) i = h 74 (24 * n + i)) → s_or h (30 + n) m = s_mor h n m
  | 0, _ => rfl
  | m + 1, e => by
    unfold s_or s_mor
    rw [or_eq m (fun i hi => e i (by omega)), e m (by omega)]
