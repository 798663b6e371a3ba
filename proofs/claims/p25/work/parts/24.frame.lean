/-- what the class's methods leave alone: the script, the model -/
def Fr (h1 h : Hp) : Prop := ∀ i j, (i = 0 ∨ 63 ≤ i) → h1 i j = h i j
theorem Fr.refl (h : Hp) : Fr h h := fun _ _ _ => rfl
theorem Fr.set {h1 h : Hp} {a k : Nat} {x : Int32} (hf : Fr h1 h) (h0 : 0 < a) (h6 : a < 63) : Fr (ev_set h1 a k x) h := fun i j hi => by
  rw [ev_rd2 (by omega)]
  exact hf i j hi
theorem Fr.ite {c : Prop} [Decidable c] {a b h : Hp} (ha : c → Fr a h) (hb : ¬ c → Fr b h) : Fr (if c then a else b) h := by
  by_cases q : c
  · rw [if_pos q]; exact ha q
  · rw [if_neg q]; exact hb q
theorem Fr.trans {a b c : Hp} (h1 : Fr a b) (h2 : Fr b c) : Fr a c := fun i j hi => (h1 i j hi).trans (h2 i j hi)
theorem Fr.keep (h : Hp) {n : Nat} (hn : n < 10) : Fr (k_keep h n) h := fun i j hi => k_keep_ne (by omega) (by omega)
theorem Fr.pass (h : Hp) (d : Int32) : Fr (z_pass h 2 d) h := fun i j hi => by
  unfold z_pass
  rw [if_neg (by omega)]
theorem Fr.near (h : Hp) (p : Int32) (m : Nat) : Fr (k_near h p m) h := fun i j hi => k_near_ne (by omega)
theorem Fr.fl (h : Hp) {a : Nat} (x : Int32) (n : Nat) (h0 : 0 < a) (h6 : a < 63) : Fr (h_fl h a x n) h := fun i j hi => h_fl_ne (by omega)
theorem Fr.tp (h : Hp) (m : Nat) (x : Int64) (n : Nat) : Fr (k_tp h m x n) h := fun i j hi => k_tp_ne (by omega) n
theorem fr_fire (h : Hp) {n : Nat} (hn : n < 10) (v : Int32) : Fr (k_fire h n v) h := Fr.ite (fun _ => Fr.refl h) (fun _ => (Fr.keep h hn).set (by decide) (by decide))
theorem fr_water (h : Hp) {n : Nat} (hn : n < 10) (v : Int32) : Fr (k_water h n v) h := Fr.ite (fun _ => Fr.refl h) (fun _ => (Fr.keep h hn).set (by decide) (by decide))
theorem fr_valve (h : Hp) {n : Nat} (hn : n < 10) (v : Int32) : Fr (k_valve h n v) h := Fr.ite (fun _ => Fr.refl h) (fun _ => ((Fr.keep h hn).set (by decide) (by decide)).set (by decide) (by decide))
theorem fr_press (h : Hp) {n : Nat} (hn : n < 10) (v : Int32) : Fr (k_press h n v) h := Fr.ite (fun _ => Fr.refl h) (fun _ => (Fr.keep h hn).set (by decide) (by decide))
theorem fr_beat (h : Hp) {n : Nat} (hn : n < 10) (m : Nat) (c : Int32) : Fr (k_beat h n m c) h := Fr.ite (fun _ => Fr.refl h) (fun _ => Fr.ite (fun _ => (Fr.pass _ _).trans (Fr.keep h hn)) (fun _ => Fr.refl h))
theorem fr_add (h : Hp) (m : Nat) (n d s q : Int32) : Fr (k_add h m n d s q) h := Fr.ite (fun _ => Fr.refl h) (fun _ => Fr.ite (fun _ => Fr.refl h) (fun _ => Fr.ite (fun _ => Fr.refl h) (fun _ => Fr.ite (fun _ => (((((Fr.refl h).set (by decide) (by decide)).set (by decide) (by decide)).set (by decide) (by decide)).set (by decide) (by decide)).set (by decide) (by decide)) (fun _ => Fr.refl h))))
theorem z_has_k {w x : Int32} {m N : Nat} (hx : x = nI m) (hm : m ≤ N) (hN : N < 2 ^ 31) (h : ¬ z_has w x = 0) : w.toNatClampNeg < m := by
  obtain ⟨k, h1, rfl⟩ := z_hask hx hm hN h
  rw [nI_clamp (by omega)]
  exact h1
theorem fr_stem (h : Hp) {n : Nat} (hn : n < 10) (w v : Int32) : Fr (k_stem h n w v) h := Fr.ite (fun _ => Fr.refl h) (fun _ => Fr.ite (fun _ => Fr.refl h) (fun _ => Fr.ite (fun _ => (Fr.keep h hn).set (by decide) (by decide)) (fun _ => Fr.refl h)))
theorem fr_crack (h : Hp) {n : Nat} (hn : n < 10) (w v : Int32) : Fr (k_crack h n w v) h := Fr.ite (fun _ => Fr.refl h) (fun _ => Fr.ite (fun _ => Fr.refl h) (fun _ => (Fr.keep h hn).set (by decide) (by decide)))
theorem fr_leak (h : Hp) {n : Nat} (hn : n < 10) (w q : Int32) : Fr (k_leak h n w q) h := Fr.ite (fun _ => Fr.refl h) (fun _ => Fr.ite (fun _ => (Fr.keep h hn).set (by decide) (by decide)) (fun _ => (Fr.keep h hn).set (by decide) (by decide)))
theorem fr_tuneAll (h : Hp) {n : Nat} (hn : n < 10) (m : Nat) (p : Int32) : Fr (k_tuneAll h n m p) h := Fr.ite (fun _ => Fr.refl h) (fun _ => (Fr.near _ _ _).trans (Fr.keep h hn))
theorem fr_app (h : Hp) (m : Nat) (x : Int64) : Fr (k_app h m x) h := Fr.ite (fun _ => (Fr.tp h m x 8).set (by decide) (by decide)) (fun _ => Fr.refl h)
theorem fr_boat (h : Hp) (m : Nat) (p l : Int32) : Fr (k_boat h m p l) h := Fr.ite (fun _ => (((Fr.refl h).set (by decide) (by decide)).set (by decide) (by decide)).set (by decide) (by decide)) (fun _ => Fr.refl h)
theorem fr_bend (h : Hp) (m : Nat) (p l : Int32) : Fr (k_bend h m p l) h := Fr.ite (fun _ => (((Fr.refl h).set (by decide) (by decide)).set (by decide) (by decide)).set (by decide) (by decide)) (fun _ => Fr.refl h)
theorem fr_sheet (h : Hp) (k l n : Int32) : Fr (k_sheet h k l n) h := Fr.ite (fun _ => Fr.refl h) (fun q => Fr.ite (fun _ => Fr.refl h) (fun _ => Fr.ite (fun _ => Fr.ite (fun _ => by
  have := z_has_k (m := 4) rfl (Nat.le_refl 4) (by decide) q
  exact ((Fr.fl h 0 60 (by omega) (by omega)).set (by decide) (by decide)).set (by decide) (by decide)) (fun _ => Fr.refl h)) (fun _ => Fr.refl h)))
theorem fr_lay (h : Hp) (k i v : Int32) : Fr (k_lay h k i v) h := Fr.ite (fun _ => Fr.refl h) (fun q => Fr.ite (fun _ => Fr.ite (fun _ => Fr.refl h) (fun _ => by
  have := z_has_k (m := 4) rfl (Nat.le_refl 4) (by decide) q
  exact (Fr.refl h).set (by omega) (by omega))) (fun _ => Fr.refl h))
theorem fr_rd0 (h : Hp) : Fr (k_rd0 h) h := (((((((((Fr.refl h).set (by decide) (by decide)).set (by decide) (by decide)).set (by decide) (by decide)).set (by decide) (by decide)).set (by decide) (by decide)).set (by decide) (by decide)).set (by decide) (by decide)).set (by decide) (by decide)).set (by decide) (by decide)
/-- a method of the class: its answer, and the script and the model as they were -/
def EvF (mi : MI) (args : List Value) (G : Geo) (h : Hp) (r : Int32) : Prop := EvM mi args G h 0 0 (fun v G' h' => v = some (.int r) ∧ G' = G ∧ Fr h' h)
theorem EvD.f {mi : MI} {args : List Value} {G : Geo} {h h1 : Hp} {r : Int32} (k : EvD mi args G h r h1) (hf : Fr h1 h) : EvF mi args G h r := EvM.mono k (fun _ _ _ q => ⟨q.1, q.2.1, q.2.2 ▸ hf⟩)
section EVF
variable {mi ce : MI} {pc nx tg ix : Nat} {lo : List (Option Value)} {st : List Value} {G : Geo} {h h1 : Hp} {kc ks : Nat} {Q : Pst} {r : Int32} {v1 v2 v3 v4 v5 v6 v7 : Value} {a c : Nat}
theorem ev_V0F (hd : ev_at mi pc = some (.invokevirtual ix, nx, tg)) (hn : nx = pc + 3) (hk : ev_lk mi.1.cls ix ce 0) (hst : Cond.instanceMethod ce.1 ∈ gwl ∧ Cond.selects ce.1.cls ce.1 ce.1 ∈ gwl) (ha : Nat.blt 0 a = true) (hz : ev_sh G a = some (.inl c)) (hc : (vwCl[c]?).map (fun q => q.1) = some ce.1.cls) (hR : ev_room mi ce) (hw : Nat.ble ((st.map fun v => v.category).sum) 8 = true) (hM : EvF ce (.ref a :: []) G h r) (kk : ∀ h1, Fr h1 h → EvQ mi nx lo (.int r :: st) G h1 kc ks Q) : EvQ mi pc lo (.ref a :: st) G h kc ks Q := by
  have h0 : EvQ mi pc lo (.ref a :: st) G h (0 + kc) (0 + ks) Q := ev_invV0 (As := []) hd hn hk hst ha hz hc rfl hR (Nat.le_of_ble_eq_true hw) hM (fun v G' h' hq _ => by
    obtain ⟨rfl, rfl, hq⟩ := hq
    exact kk h' hq)
  rw [Nat.zero_add, Nat.zero_add] at h0
  exact h0
theorem ev_V1F (hd : ev_at mi pc = some (.invokevirtual ix, nx, tg)) (hn : nx = pc + 3) (hk : ev_lk mi.1.cls ix ce 1) (hst : Cond.instanceMethod ce.1 ∈ gwl ∧ Cond.selects ce.1.cls ce.1 ce.1 ∈ gwl) (ha : Nat.blt 0 a = true) (hz : ev_sh G a = some (.inl c)) (hc : (vwCl[c]?).map (fun q => q.1) = some ce.1.cls) (hR : ev_room mi ce) (hw : Nat.ble ((st.map fun v => v.category).sum) 8 = true) (hM : EvF ce (.ref a :: [v1]) G h r) (kk : ∀ h1, Fr h1 h → EvQ mi nx lo (.int r :: st) G h1 kc ks Q) : EvQ mi pc lo (v1 :: .ref a :: st) G h kc ks Q := by
  have h0 : EvQ mi pc lo (v1 :: .ref a :: st) G h (0 + kc) (0 + ks) Q := ev_invV0 (As := [v1]) hd hn hk hst ha hz hc rfl hR (Nat.le_of_ble_eq_true hw) hM (fun v G' h' hq _ => by
    obtain ⟨rfl, rfl, hq⟩ := hq
    exact kk h' hq)
  rw [Nat.zero_add, Nat.zero_add] at h0
  exact h0
theorem ev_V2F (hd : ev_at mi pc = some (.invokevirtual ix, nx, tg)) (hn : nx = pc + 3) (hk : ev_lk mi.1.cls ix ce 2) (hst : Cond.instanceMethod ce.1 ∈ gwl ∧ Cond.selects ce.1.cls ce.1 ce.1 ∈ gwl) (ha : Nat.blt 0 a = true) (hz : ev_sh G a = some (.inl c)) (hc : (vwCl[c]?).map (fun q => q.1) = some ce.1.cls) (hR : ev_room mi ce) (hw : Nat.ble ((st.map fun v => v.category).sum) 8 = true) (hM : EvF ce (.ref a :: [v1, v2]) G h r) (kk : ∀ h1, Fr h1 h → EvQ mi nx lo (.int r :: st) G h1 kc ks Q) : EvQ mi pc lo (v2 :: v1 :: .ref a :: st) G h kc ks Q := by
  have h0 : EvQ mi pc lo (v2 :: v1 :: .ref a :: st) G h (0 + kc) (0 + ks) Q := ev_invV0 (As := [v1, v2]) hd hn hk hst ha hz hc rfl hR (Nat.le_of_ble_eq_true hw) hM (fun v G' h' hq _ => by
    obtain ⟨rfl, rfl, hq⟩ := hq
    exact kk h' hq)
  rw [Nat.zero_add, Nat.zero_add] at h0
  exact h0
theorem ev_V3F (hd : ev_at mi pc = some (.invokevirtual ix, nx, tg)) (hn : nx = pc + 3) (hk : ev_lk mi.1.cls ix ce 3) (hst : Cond.instanceMethod ce.1 ∈ gwl ∧ Cond.selects ce.1.cls ce.1 ce.1 ∈ gwl) (ha : Nat.blt 0 a = true) (hz : ev_sh G a = some (.inl c)) (hc : (vwCl[c]?).map (fun q => q.1) = some ce.1.cls) (hR : ev_room mi ce) (hw : Nat.ble ((st.map fun v => v.category).sum) 8 = true) (hM : EvF ce (.ref a :: [v1, v2, v3]) G h r) (kk : ∀ h1, Fr h1 h → EvQ mi nx lo (.int r :: st) G h1 kc ks Q) : EvQ mi pc lo (v3 :: v2 :: v1 :: .ref a :: st) G h kc ks Q := by
  have h0 : EvQ mi pc lo (v3 :: v2 :: v1 :: .ref a :: st) G h (0 + kc) (0 + ks) Q := ev_invV0 (As := [v1, v2, v3]) hd hn hk hst ha hz hc rfl hR (Nat.le_of_ble_eq_true hw) hM (fun v G' h' hq _ => by
    obtain ⟨rfl, rfl, hq⟩ := hq
    exact kk h' hq)
  rw [Nat.zero_add, Nat.zero_add] at h0
  exact h0
theorem ev_V4F (hd : ev_at mi pc = some (.invokevirtual ix, nx, tg)) (hn : nx = pc + 3) (hk : ev_lk mi.1.cls ix ce 4) (hst : Cond.instanceMethod ce.1 ∈ gwl ∧ Cond.selects ce.1.cls ce.1 ce.1 ∈ gwl) (ha : Nat.blt 0 a = true) (hz : ev_sh G a = some (.inl c)) (hc : (vwCl[c]?).map (fun q => q.1) = some ce.1.cls) (hR : ev_room mi ce) (hw : Nat.ble ((st.map fun v => v.category).sum) 8 = true) (hM : EvF ce (.ref a :: [v1, v2, v3, v4]) G h r) (kk : ∀ h1, Fr h1 h → EvQ mi nx lo (.int r :: st) G h1 kc ks Q) : EvQ mi pc lo (v4 :: v3 :: v2 :: v1 :: .ref a :: st) G h kc ks Q := by
  have h0 : EvQ mi pc lo (v4 :: v3 :: v2 :: v1 :: .ref a :: st) G h (0 + kc) (0 + ks) Q := ev_invV0 (As := [v1, v2, v3, v4]) hd hn hk hst ha hz hc rfl hR (Nat.le_of_ble_eq_true hw) hM (fun v G' h' hq _ => by
    obtain ⟨rfl, rfl, hq⟩ := hq
    exact kk h' hq)
  rw [Nat.zero_add, Nat.zero_add] at h0
  exact h0
theorem ev_V5F (hd : ev_at mi pc = some (.invokevirtual ix, nx, tg)) (hn : nx = pc + 3) (hk : ev_lk mi.1.cls ix ce 5) (hst : Cond.instanceMethod ce.1 ∈ gwl ∧ Cond.selects ce.1.cls ce.1 ce.1 ∈ gwl) (ha : Nat.blt 0 a = true) (hz : ev_sh G a = some (.inl c)) (hc : (vwCl[c]?).map (fun q => q.1) = some ce.1.cls) (hR : ev_room mi ce) (hw : Nat.ble ((st.map fun v => v.category).sum) 8 = true) (hM : EvF ce (.ref a :: [v1, v2, v3, v4, v5]) G h r) (kk : ∀ h1, Fr h1 h → EvQ mi nx lo (.int r :: st) G h1 kc ks Q) : EvQ mi pc lo (v5 :: v4 :: v3 :: v2 :: v1 :: .ref a :: st) G h kc ks Q := by
  have h0 : EvQ mi pc lo (v5 :: v4 :: v3 :: v2 :: v1 :: .ref a :: st) G h (0 + kc) (0 + ks) Q := ev_invV0 (As := [v1, v2, v3, v4, v5]) hd hn hk hst ha hz hc rfl hR (Nat.le_of_ble_eq_true hw) hM (fun v G' h' hq _ => by
    obtain ⟨rfl, rfl, hq⟩ := hq
    exact kk h' hq)
  rw [Nat.zero_add, Nat.zero_add] at h0
  exact h0
theorem ev_V6F (hd : ev_at mi pc = some (.invokevirtual ix, nx, tg)) (hn : nx = pc + 3) (hk : ev_lk mi.1.cls ix ce 6) (hst : Cond.instanceMethod ce.1 ∈ gwl ∧ Cond.selects ce.1.cls ce.1 ce.1 ∈ gwl) (ha : Nat.blt 0 a = true) (hz : ev_sh G a = some (.inl c)) (hc : (vwCl[c]?).map (fun q => q.1) = some ce.1.cls) (hR : ev_room mi ce) (hw : Nat.ble ((st.map fun v => v.category).sum) 8 = true) (hM : EvF ce (.ref a :: [v1, v2, v3, v4, v5, v6]) G h r) (kk : ∀ h1, Fr h1 h → EvQ mi nx lo (.int r :: st) G h1 kc ks Q) : EvQ mi pc lo (v6 :: v5 :: v4 :: v3 :: v2 :: v1 :: .ref a :: st) G h kc ks Q := by
  have h0 : EvQ mi pc lo (v6 :: v5 :: v4 :: v3 :: v2 :: v1 :: .ref a :: st) G h (0 + kc) (0 + ks) Q := ev_invV0 (As := [v1, v2, v3, v4, v5, v6]) hd hn hk hst ha hz hc rfl hR (Nat.le_of_ble_eq_true hw) hM (fun v G' h' hq _ => by
    obtain ⟨rfl, rfl, hq⟩ := hq
    exact kk h' hq)
  rw [Nat.zero_add, Nat.zero_add] at h0
  exact h0
theorem ev_V7F (hd : ev_at mi pc = some (.invokevirtual ix, nx, tg)) (hn : nx = pc + 3) (hk : ev_lk mi.1.cls ix ce 7) (hst : Cond.instanceMethod ce.1 ∈ gwl ∧ Cond.selects ce.1.cls ce.1 ce.1 ∈ gwl) (ha : Nat.blt 0 a = true) (hz : ev_sh G a = some (.inl c)) (hc : (vwCl[c]?).map (fun q => q.1) = some ce.1.cls) (hR : ev_room mi ce) (hw : Nat.ble ((st.map fun v => v.category).sum) 8 = true) (hM : EvF ce (.ref a :: [v1, v2, v3, v4, v5, v6, v7]) G h r) (kk : ∀ h1, Fr h1 h → EvQ mi nx lo (.int r :: st) G h1 kc ks Q) : EvQ mi pc lo (v7 :: v6 :: v5 :: v4 :: v3 :: v2 :: v1 :: .ref a :: st) G h kc ks Q := by
  have h0 : EvQ mi pc lo (v7 :: v6 :: v5 :: v4 :: v3 :: v2 :: v1 :: .ref a :: st) G h (0 + kc) (0 + ks) Q := ev_invV0 (As := [v1, v2, v3, v4, v5, v6, v7]) hd hn hk hst ha hz hc rfl hR (Nat.le_of_ble_eq_true hw) hM (fun v G' h' hq _ => by
    obtain ⟨rfl, rfl, hq⟩ := hq
    exact kk h' hq)
  rw [Nat.zero_add, Nat.zero_add] at h0
  exact h0
end EVF
