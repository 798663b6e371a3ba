def z_sht (k l : Int32) : Int32 := if z_wi k 0 3 = 0 then 0 else if z_wi l 0 2 = 0 then 0 else 1

set_option maxRecDepth 100000 in
set_option maxHeartbeats 4000000 in
theorem c_isSheet (G : Geo) (h : Hp) (k l : Int32) : EvD mi_X10_isSheet [.int k, .int l] G h (z_sht k l) (h) := by
  refine EvD.of (lo := [some (.int k), some (.int l)]) pf_X10_isSheet ok_X10_isSheet rfl rfl ?_
  refine ev_iload_n rfl rfl rfl ?_
  refine ev_i2l rfl rfl ?_
  refine ev_lconst (v := 0) rfl rfl rfl ?_
  refine ev_ldc2 rfl rfl kc_X10_269 ?_
  refine ev_S3D rfl rfl lk_X10_124 st_X10_in rfl rfl (c_inw _ _ _ (0) (3) (by decide) (by decide)) ?_
  refine ev_if_eq rfl rfl (fun c_9 => ?_) (fun c_9 => ?_)
  · refine ev_iconst (v := 0) rfl rfl (by decide) ?_
    exact ev_iret rfl rfl rfl (⟨congrArg (fun z => some (Value.int z)) (by simp only [z_sht, if_pos c_9]), rfl, rfl⟩)
  · refine ev_iload_n rfl rfl rfl ?_
    refine ev_i2l rfl rfl ?_
    refine ev_lconst (v := 0) rfl rfl rfl ?_
    refine ev_ldc2 rfl rfl kc_X10_183 ?_
    refine ev_S3D rfl rfl lk_X10_124 st_X10_in rfl rfl (c_inw _ _ _ (0) (2) (by decide) (by decide)) ?_
    refine ev_if_eq rfl rfl (fun c_21 => ?_) (fun c_21 => ?_)
    · refine ev_iconst (v := 0) rfl rfl (by decide) ?_
      exact ev_iret rfl rfl rfl (⟨congrArg (fun z => some (Value.int z)) (by simp only [z_sht, if_neg c_9, if_pos c_21]), rfl, rfl⟩)
    · refine ev_iconst (v := 1) rfl rfl (by decide) ?_
      refine ev_goto rfl rfl ?_
      exact ev_iret rfl rfl rfl (⟨congrArg (fun z => some (Value.int z)) (by simp only [z_sht, if_neg c_9, if_neg c_21]), rfl, rfl⟩)

theorem z_sht_k {k l : Int32} (q : ¬ z_sht k l = 0) : ∃ j, j < 4 ∧ k = nI j := by
  unfold z_sht z_wi at q
  by_cases q1 : k < 0
  · rw [if_pos q1] at q; exact absurd rfl q
  · rw [if_neg q1] at q
    by_cases q2 : (3 : Int32) < k
    · rw [if_pos q2] at q; exact absurd rfl q
    · obtain ⟨j, hj, e⟩ := nI_of2 (n := 3) (M := 3) rfl q1 (Int32.not_lt.mp q2)
      exact ⟨j, by omega, e⟩

def k_cl (h : Hp) (k : Nat) : Nat → Hp
  | 0 => h
  | i + 1 => ev_set (k_cl h k i) 94 (60 * k + i) 0

