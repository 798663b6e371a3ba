/-! calls by arity: EvD: the answer and the heap behind; EvU: the heap behind (no answer) -/
def EvD (mi : MI) (args : List Value) (G : Geo) (h : Hp) (r : Int32) (h1 : Hp) : Prop := EvM mi args G h 0 0 (fun v G' h' => v = some (.int r) ∧ G' = G ∧ h' = h1)
def EvU (mi : MI) (args : List Value) (G : Geo) (h : Hp) (h1 : Hp) : Prop := EvM mi args G h 0 0 (fun v G' h' => v = none ∧ G' = G ∧ h' = h1)
theorem EvD.of {mi : MI} {args : List Value} {G : Geo} {h h1 : Hp} {r : Int32} {lo : List (Option Value)} (hp : plainName mi.1.cls = true ∨ plainFor mi.1 = true) (hok : ev_ok mi) (hlen : Nat.ble (ev_al args).length (mi_L mi) = true) (hlo : ev_lo (mi_L mi) args = lo) (k : EvQ mi 0 lo [] G h 0 0 (fun v G' h' => v = some (.int r) ∧ G' = G ∧ h' = h1)) : EvD mi args G h r h1 := EvM.of hp hok hlen (by rw [hlo]; exact k)
theorem EvU.of {mi : MI} {args : List Value} {G : Geo} {h h1 : Hp} {lo : List (Option Value)} (hp : plainName mi.1.cls = true ∨ plainFor mi.1 = true) (hok : ev_ok mi) (hlen : Nat.ble (ev_al args).length (mi_L mi) = true) (hlo : ev_lo (mi_L mi) args = lo) (k : EvQ mi 0 lo [] G h 0 0 (fun v G' h' => v = none ∧ G' = G ∧ h' = h1)) : EvU mi args G h h1 := EvM.of hp hok hlen (by rw [hlo]; exact k)
theorem EvM.of2 {mi : MI} {args : List Value} {G : Geo} {h : Hp} {kc ks : Nat} {Q : Pst} {lo : List (Option Value)} (hp : plainName mi.1.cls = true ∨ plainFor mi.1 = true) (hok : ev_ok mi) (hlen : Nat.ble (ev_al args).length (mi_L mi) = true) (hlo : ev_lo (mi_L mi) args = lo) (k : EvQ mi 0 lo [] G h kc ks Q) : EvM mi args G h kc ks Q := EvM.of hp hok hlen (by rw [hlo]; exact k)
theorem EvD.to {mi : MI} {args : List Value} {G : Geo} {h h1 h2 : Hp} {r r2 : Int32} (k : EvD mi args G h r h1) (e1 : r = r2) (e2 : h1 = h2) : EvD mi args G h r2 h2 := by subst e1; subst e2; exact k
theorem EvU.to {mi : MI} {args : List Value} {G : Geo} {h h1 h2 : Hp} (k : EvU mi args G h h1) (e2 : h1 = h2) : EvU mi args G h h2 := by subst e2; exact k
section EVW
variable {mi ce : MI} {pc nx tg ix : Nat} {lo : List (Option Value)} {st : List Value} {G : Geo} {h h1 : Hp} {kc ks : Nat} {Q : Pst} {r : Int32} {v1 v2 v3 v4 v5 v6 v7 : Value} {a c : Nat}
theorem ev_V0D (hd : ev_at mi pc = some (.invokevirtual ix, nx, tg)) (hn : nx = pc + 3) (hk : ev_lk mi.1.cls ix ce 0) (hst : Cond.instanceMethod ce.1 ∈ gwl ∧ Cond.selects ce.1.cls ce.1 ce.1 ∈ gwl) (ha : Nat.blt 0 a = true) (hz : ev_sh G a = some (.inl c)) (hc : (vwCl[c]?).map (fun q => q.1) = some ce.1.cls) (hR : ev_room mi ce) (hw : Nat.ble ((st.map fun v => v.category).sum) 8 = true) (hM : EvD ce (.ref a :: []) G h r h1) (kk : EvQ mi nx lo (.int r :: st) G h1 kc ks Q) : EvQ mi pc lo (.ref a :: st) G h kc ks Q := by
  have h0 : EvQ mi pc lo (.ref a :: st) G h (0 + kc) (0 + ks) Q := ev_invV0 (As := []) hd hn hk hst ha hz hc rfl hR (Nat.le_of_ble_eq_true hw) hM (fun v G' h' hq _ => by
    obtain ⟨rfl, rfl, rfl⟩ := hq
    exact kk)
  rw [Nat.zero_add, Nat.zero_add] at h0
  exact h0
theorem ev_V0U (hd : ev_at mi pc = some (.invokevirtual ix, nx, tg)) (hn : nx = pc + 3) (hk : ev_lk mi.1.cls ix ce 0) (hst : Cond.instanceMethod ce.1 ∈ gwl ∧ Cond.selects ce.1.cls ce.1 ce.1 ∈ gwl) (ha : Nat.blt 0 a = true) (hz : ev_sh G a = some (.inl c)) (hc : (vwCl[c]?).map (fun q => q.1) = some ce.1.cls) (hR : ev_room mi ce) (hw : Nat.ble ((st.map fun v => v.category).sum) 8 = true) (hM : EvU ce (.ref a :: []) G h h1) (kk : EvQ mi nx lo st G h1 kc ks Q) : EvQ mi pc lo (.ref a :: st) G h kc ks Q := by
  have h0 : EvQ mi pc lo (.ref a :: st) G h (0 + kc) (0 + ks) Q := ev_invV0 (As := []) hd hn hk hst ha hz hc rfl hR (Nat.le_of_ble_eq_true hw) hM (fun v G' h' hq _ => by
    obtain ⟨rfl, rfl, rfl⟩ := hq
    exact kk)
  rw [Nat.zero_add, Nat.zero_add] at h0
  exact h0
theorem ev_S1D (hd : ev_at mi pc = some (.invokestatic ix, nx, tg)) (hn : nx = pc + 3) (hk : ev_lk mi.1.cls ix ce 1) (hst : Cond.static ce.1 ∈ gwl) (hR : ev_room mi ce) (hw : Nat.ble ((st.map fun v => v.category).sum) 8 = true) (hM : EvD ce [v1] G h r h1) (kk : EvQ mi nx lo (.int r :: st) G h1 kc ks Q) : EvQ mi pc lo (v1 :: st) G h kc ks Q := by
  have h0 : EvQ mi pc lo (v1 :: st) G h (0 + kc) (0 + ks) Q := ev_invS0 (As := [v1]) hd hn hk hst rfl hR (Nat.le_of_ble_eq_true hw) hM (fun v G' h' hq _ => by
    obtain ⟨rfl, rfl, rfl⟩ := hq
    exact kk)
  rw [Nat.zero_add, Nat.zero_add] at h0
  exact h0
theorem ev_V1D (hd : ev_at mi pc = some (.invokevirtual ix, nx, tg)) (hn : nx = pc + 3) (hk : ev_lk mi.1.cls ix ce 1) (hst : Cond.instanceMethod ce.1 ∈ gwl ∧ Cond.selects ce.1.cls ce.1 ce.1 ∈ gwl) (ha : Nat.blt 0 a = true) (hz : ev_sh G a = some (.inl c)) (hc : (vwCl[c]?).map (fun q => q.1) = some ce.1.cls) (hR : ev_room mi ce) (hw : Nat.ble ((st.map fun v => v.category).sum) 8 = true) (hM : EvD ce (.ref a :: [v1]) G h r h1) (kk : EvQ mi nx lo (.int r :: st) G h1 kc ks Q) : EvQ mi pc lo (v1 :: .ref a :: st) G h kc ks Q := by
  have h0 : EvQ mi pc lo (v1 :: .ref a :: st) G h (0 + kc) (0 + ks) Q := ev_invV0 (As := [v1]) hd hn hk hst ha hz hc rfl hR (Nat.le_of_ble_eq_true hw) hM (fun v G' h' hq _ => by
    obtain ⟨rfl, rfl, rfl⟩ := hq
    exact kk)
  rw [Nat.zero_add, Nat.zero_add] at h0
  exact h0
theorem ev_V1U (hd : ev_at mi pc = some (.invokevirtual ix, nx, tg)) (hn : nx = pc + 3) (hk : ev_lk mi.1.cls ix ce 1) (hst : Cond.instanceMethod ce.1 ∈ gwl ∧ Cond.selects ce.1.cls ce.1 ce.1 ∈ gwl) (ha : Nat.blt 0 a = true) (hz : ev_sh G a = some (.inl c)) (hc : (vwCl[c]?).map (fun q => q.1) = some ce.1.cls) (hR : ev_room mi ce) (hw : Nat.ble ((st.map fun v => v.category).sum) 8 = true) (hM : EvU ce (.ref a :: [v1]) G h h1) (kk : EvQ mi nx lo st G h1 kc ks Q) : EvQ mi pc lo (v1 :: .ref a :: st) G h kc ks Q := by
  have h0 : EvQ mi pc lo (v1 :: .ref a :: st) G h (0 + kc) (0 + ks) Q := ev_invV0 (As := [v1]) hd hn hk hst ha hz hc rfl hR (Nat.le_of_ble_eq_true hw) hM (fun v G' h' hq _ => by
    obtain ⟨rfl, rfl, rfl⟩ := hq
    exact kk)
  rw [Nat.zero_add, Nat.zero_add] at h0
  exact h0
theorem ev_SN1D (hd : ev_at mi pc = some (.invokestatic ix, nx, tg)) (hn : nx = pc + 3) (hk : ev_ln mi.1.cls ix ce 1) (hst : Cond.static ce.1 ∈ gwl) (hR : ev_room mi ce) (hw : Nat.ble ((st.map fun v => v.category).sum) 8 = true) (hM : EvD ce [v1] G h r h1) (kk : EvQ mi nx lo (.int r :: st) G h1 kc ks Q) : EvQ mi pc lo (v1 :: st) G h kc ks Q := by
  have h0 : EvQ mi pc lo (v1 :: st) G h (0 + kc) (0 + ks) Q := ev_invSN0 (As := [v1]) hd hn hk hst rfl hR (Nat.le_of_ble_eq_true hw) hM (fun v G' h' hq _ => by
    obtain ⟨rfl, rfl, rfl⟩ := hq
    exact kk)
  rw [Nat.zero_add, Nat.zero_add] at h0
  exact h0
theorem ev_S2D (hd : ev_at mi pc = some (.invokestatic ix, nx, tg)) (hn : nx = pc + 3) (hk : ev_lk mi.1.cls ix ce 2) (hst : Cond.static ce.1 ∈ gwl) (hR : ev_room mi ce) (hw : Nat.ble ((st.map fun v => v.category).sum) 8 = true) (hM : EvD ce [v1, v2] G h r h1) (kk : EvQ mi nx lo (.int r :: st) G h1 kc ks Q) : EvQ mi pc lo (v2 :: v1 :: st) G h kc ks Q := by
  have h0 : EvQ mi pc lo (v2 :: v1 :: st) G h (0 + kc) (0 + ks) Q := ev_invS0 (As := [v1, v2]) hd hn hk hst rfl hR (Nat.le_of_ble_eq_true hw) hM (fun v G' h' hq _ => by
    obtain ⟨rfl, rfl, rfl⟩ := hq
    exact kk)
  rw [Nat.zero_add, Nat.zero_add] at h0
  exact h0
theorem ev_V2D (hd : ev_at mi pc = some (.invokevirtual ix, nx, tg)) (hn : nx = pc + 3) (hk : ev_lk mi.1.cls ix ce 2) (hst : Cond.instanceMethod ce.1 ∈ gwl ∧ Cond.selects ce.1.cls ce.1 ce.1 ∈ gwl) (ha : Nat.blt 0 a = true) (hz : ev_sh G a = some (.inl c)) (hc : (vwCl[c]?).map (fun q => q.1) = some ce.1.cls) (hR : ev_room mi ce) (hw : Nat.ble ((st.map fun v => v.category).sum) 8 = true) (hM : EvD ce (.ref a :: [v1, v2]) G h r h1) (kk : EvQ mi nx lo (.int r :: st) G h1 kc ks Q) : EvQ mi pc lo (v2 :: v1 :: .ref a :: st) G h kc ks Q := by
  have h0 : EvQ mi pc lo (v2 :: v1 :: .ref a :: st) G h (0 + kc) (0 + ks) Q := ev_invV0 (As := [v1, v2]) hd hn hk hst ha hz hc rfl hR (Nat.le_of_ble_eq_true hw) hM (fun v G' h' hq _ => by
    obtain ⟨rfl, rfl, rfl⟩ := hq
    exact kk)
  rw [Nat.zero_add, Nat.zero_add] at h0
  exact h0
theorem ev_V2U (hd : ev_at mi pc = some (.invokevirtual ix, nx, tg)) (hn : nx = pc + 3) (hk : ev_lk mi.1.cls ix ce 2) (hst : Cond.instanceMethod ce.1 ∈ gwl ∧ Cond.selects ce.1.cls ce.1 ce.1 ∈ gwl) (ha : Nat.blt 0 a = true) (hz : ev_sh G a = some (.inl c)) (hc : (vwCl[c]?).map (fun q => q.1) = some ce.1.cls) (hR : ev_room mi ce) (hw : Nat.ble ((st.map fun v => v.category).sum) 8 = true) (hM : EvU ce (.ref a :: [v1, v2]) G h h1) (kk : EvQ mi nx lo st G h1 kc ks Q) : EvQ mi pc lo (v2 :: v1 :: .ref a :: st) G h kc ks Q := by
  have h0 : EvQ mi pc lo (v2 :: v1 :: .ref a :: st) G h (0 + kc) (0 + ks) Q := ev_invV0 (As := [v1, v2]) hd hn hk hst ha hz hc rfl hR (Nat.le_of_ble_eq_true hw) hM (fun v G' h' hq _ => by
    obtain ⟨rfl, rfl, rfl⟩ := hq
    exact kk)
  rw [Nat.zero_add, Nat.zero_add] at h0
  exact h0
theorem ev_S3D (hd : ev_at mi pc = some (.invokestatic ix, nx, tg)) (hn : nx = pc + 3) (hk : ev_lk mi.1.cls ix ce 3) (hst : Cond.static ce.1 ∈ gwl) (hR : ev_room mi ce) (hw : Nat.ble ((st.map fun v => v.category).sum) 8 = true) (hM : EvD ce [v1, v2, v3] G h r h1) (kk : EvQ mi nx lo (.int r :: st) G h1 kc ks Q) : EvQ mi pc lo (v3 :: v2 :: v1 :: st) G h kc ks Q := by
  have h0 : EvQ mi pc lo (v3 :: v2 :: v1 :: st) G h (0 + kc) (0 + ks) Q := ev_invS0 (As := [v1, v2, v3]) hd hn hk hst rfl hR (Nat.le_of_ble_eq_true hw) hM (fun v G' h' hq _ => by
    obtain ⟨rfl, rfl, rfl⟩ := hq
    exact kk)
  rw [Nat.zero_add, Nat.zero_add] at h0
  exact h0
theorem ev_V3D (hd : ev_at mi pc = some (.invokevirtual ix, nx, tg)) (hn : nx = pc + 3) (hk : ev_lk mi.1.cls ix ce 3) (hst : Cond.instanceMethod ce.1 ∈ gwl ∧ Cond.selects ce.1.cls ce.1 ce.1 ∈ gwl) (ha : Nat.blt 0 a = true) (hz : ev_sh G a = some (.inl c)) (hc : (vwCl[c]?).map (fun q => q.1) = some ce.1.cls) (hR : ev_room mi ce) (hw : Nat.ble ((st.map fun v => v.category).sum) 8 = true) (hM : EvD ce (.ref a :: [v1, v2, v3]) G h r h1) (kk : EvQ mi nx lo (.int r :: st) G h1 kc ks Q) : EvQ mi pc lo (v3 :: v2 :: v1 :: .ref a :: st) G h kc ks Q := by
  have h0 : EvQ mi pc lo (v3 :: v2 :: v1 :: .ref a :: st) G h (0 + kc) (0 + ks) Q := ev_invV0 (As := [v1, v2, v3]) hd hn hk hst ha hz hc rfl hR (Nat.le_of_ble_eq_true hw) hM (fun v G' h' hq _ => by
    obtain ⟨rfl, rfl, rfl⟩ := hq
    exact kk)
  rw [Nat.zero_add, Nat.zero_add] at h0
  exact h0
theorem ev_SN3D (hd : ev_at mi pc = some (.invokestatic ix, nx, tg)) (hn : nx = pc + 3) (hk : ev_ln mi.1.cls ix ce 3) (hst : Cond.static ce.1 ∈ gwl) (hR : ev_room mi ce) (hw : Nat.ble ((st.map fun v => v.category).sum) 8 = true) (hM : EvD ce [v1, v2, v3] G h r h1) (kk : EvQ mi nx lo (.int r :: st) G h1 kc ks Q) : EvQ mi pc lo (v3 :: v2 :: v1 :: st) G h kc ks Q := by
  have h0 : EvQ mi pc lo (v3 :: v2 :: v1 :: st) G h (0 + kc) (0 + ks) Q := ev_invSN0 (As := [v1, v2, v3]) hd hn hk hst rfl hR (Nat.le_of_ble_eq_true hw) hM (fun v G' h' hq _ => by
    obtain ⟨rfl, rfl, rfl⟩ := hq
    exact kk)
  rw [Nat.zero_add, Nat.zero_add] at h0
  exact h0
theorem ev_V5D (hd : ev_at mi pc = some (.invokevirtual ix, nx, tg)) (hn : nx = pc + 3) (hk : ev_lk mi.1.cls ix ce 5) (hst : Cond.instanceMethod ce.1 ∈ gwl ∧ Cond.selects ce.1.cls ce.1 ce.1 ∈ gwl) (ha : Nat.blt 0 a = true) (hz : ev_sh G a = some (.inl c)) (hc : (vwCl[c]?).map (fun q => q.1) = some ce.1.cls) (hR : ev_room mi ce) (hw : Nat.ble ((st.map fun v => v.category).sum) 8 = true) (hM : EvD ce (.ref a :: [v1, v2, v3, v4, v5]) G h r h1) (kk : EvQ mi nx lo (.int r :: st) G h1 kc ks Q) : EvQ mi pc lo (v5 :: v4 :: v3 :: v2 :: v1 :: .ref a :: st) G h kc ks Q := by
  have h0 : EvQ mi pc lo (v5 :: v4 :: v3 :: v2 :: v1 :: .ref a :: st) G h (0 + kc) (0 + ks) Q := ev_invV0 (As := [v1, v2, v3, v4, v5]) hd hn hk hst ha hz hc rfl hR (Nat.le_of_ble_eq_true hw) hM (fun v G' h' hq _ => by
    obtain ⟨rfl, rfl, rfl⟩ := hq
    exact kk)
  rw [Nat.zero_add, Nat.zero_add] at h0
  exact h0
theorem ev_I0 {kc1 ks1 : Nat} {Q1 : Pst} (hd : ev_at mi pc = some (.invokespecial ix, nx, tg)) (hn : nx = pc + 3) (hk : ev_lk mi.1.cls ix ce 0) (hst : Cond.instanceMethod ce.1 ∈ gwl ∧ ce.1.name = "<init>" ∧ mi_R ce = none) (hR : ev_room mi ce) (hw : Nat.ble ((st.map fun v => v.category).sum) 8 = true) (hM : EvM ce [.ref a] G h kc1 ks1 Q1) (kk : ∀ G' h', Q1 none G' h' → EvQ mi nx lo st G' h' kc ks Q) : EvQ mi pc lo (.ref a :: st) G h (kc1 + kc) (ks1 + ks) Q :=
  ev_invI0 (As := []) hd hn hk hst rfl hR (Nat.le_of_ble_eq_true hw) hM (fun v G' h' hq ht => by
    rw [hst.2.2] at ht
    cases v with
    | none => exact kk G' h' hq
    | some w => cases ht)
theorem ev_IN0 {kc1 ks1 : Nat} {Q1 : Pst} (hd : ev_at mi pc = some (.invokespecial ix, nx, tg)) (hn : nx = pc + 3) (hk : ev_ln mi.1.cls ix ce 0) (hst : Cond.instanceMethod ce.1 ∈ gwl ∧ ce.1.name = "<init>" ∧ mi_R ce = none) (hR : ev_room mi ce) (hw : Nat.ble ((st.map fun v => v.category).sum) 8 = true) (hM : EvM ce [.ref a] G h kc1 ks1 Q1) (kk : ∀ G' h', Q1 none G' h' → EvQ mi nx lo st G' h' kc ks Q) : EvQ mi pc lo (.ref a :: st) G h (kc1 + kc) (ks1 + ks) Q :=
  ev_invIN0 (As := []) hd hn hk hst rfl hR (Nat.le_of_ble_eq_true hw) hM (fun v G' h' hq ht => by
    rw [hst.2.2] at ht
    cases v with
    | none => exact kk G' h' hq
    | some w => cases ht)
end EVW

