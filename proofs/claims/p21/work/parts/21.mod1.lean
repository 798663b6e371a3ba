/-- a method whose answer alone counts -/
def EvX (mi : MI) (args : List Value) (G : Geo) (h : Hp) (r : Int32) : Prop := EvM mi args G h 0 0 (fun v G' _ => v = some (.int r) ∧ G' = G)
theorem EvD.x {mi : MI} {args : List Value} {G : Geo} {h h1 : Hp} {r : Int32} (k : EvD mi args G h r h1) : EvX mi args G h r := EvM.mono k (fun _ _ _ q => ⟨q.1, q.2.1⟩)
theorem EvX.to {mi : MI} {args : List Value} {G : Geo} {h : Hp} {r r2 : Int32} (k : EvX mi args G h r) (e1 : r = r2) : EvX mi args G h r2 := by subst e1; exact k
section EVX
variable {mi ce : MI} {pc nx tg ix : Nat} {lo : List (Option Value)} {st : List Value} {G : Geo} {h h1 : Hp} {kc ks : Nat} {Q : Pst} {r : Int32} {v1 v2 v3 v4 v5 v6 v7 : Value} {a c : Nat}
end EVX
theorem z_in_wi (v a b : Int32) : z_in v.toInt64 a.toInt64 b.toInt64 = z_wi v a b := by
  unfold z_in z_wi
  have e1 : (lg_cmp v.toInt64 a.toInt64 < 0) ↔ v < a := by
    rw [← Int32.not_le, lg_cmp_ge, Int64.le_iff_toInt_le, Int32.toInt_toInt64, Int32.toInt_toInt64, Int32.lt_iff_toInt_lt]
    omega
  have e2 : (0 < lg_cmp v.toInt64 b.toInt64) ↔ b < v := by
    unfold lg_cmp
    simp only [gt_iff_lt, Int64.lt_iff_toInt_lt, Int32.lt_iff_toInt_lt, ← Int64.toInt_inj, Int32.toInt_toInt64]
    by_cases q : b.toInt < v.toInt
    · rw [if_pos q]; exact ⟨fun _ => q, fun _ => by decide⟩
    · rw [if_neg q]
      refine ⟨fun z => ?_, fun z => absurd z q⟩
      split at z
      · exact absurd z (by decide)
      · exact absurd z (by decide)
  by_cases q1 : v < a
  · rw [if_pos q1, if_pos (e1.mpr q1)]
  · rw [if_neg q1, if_neg (fun z => q1 (e1.mp z))]
    by_cases q2 : b < v
    · rw [if_pos q2, if_pos (e2.mpr q2)]
    · rw [if_neg q2, if_neg (fun z => q2 (e2.mp z))]
theorem c_inw (G : Geo) (h : Hp) (v a b : Int32) {a6 b6 : Int64} (ea : a6 = a.toInt64) (eb : b6 = b.toInt64) : EvD mi_X10_in [.long v.toInt64, .long a6, .long b6] G h (z_wi v a b) h := by
  subst ea
  subst eb
  exact (c_in G h v.toInt64 a.toInt64 b.toInt64).to (z_in_wi v a b) rfl
theorem nI_mul (a b : Nat) : nI a * nI b = nI (a * b) := (Int32.ofNat_mul a b).symm

