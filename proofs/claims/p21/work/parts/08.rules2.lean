/-! heap rows -/
theorem ev_S.obj {b base : Nat} {G : Geo} {h : Hp} {U : State} {H : Heap} (hS : ev_S b base G h U H) {a c : Nat} (ha : 0 < a) (hz : ev_sh G a = some (.inl c)) : ∃ (q : vw_C) (cC : ClassId) (iS : Nat → Nat), vwCl[c]? = some q ∧ u_Kn U q.1 q.2.1 q.2.2 cC iS ∧ t_OB (base + a) cC q.2.2 iS H (fun k => ev_sv b base (tyCl c k) G h a k) := hS.2.2.2 a _ ha hz
theorem ev_ad_pos {b base a : Nat} (ha : 0 < a) : ev_ad b base a = base + a := if_neg (Nat.ne_of_gt ha)
theorem ev_set_ne {h : Hp} {a k i j : Nat} {x : Int32} (hne : i ≠ a) : ev_set h a k x i j = h i j := if_neg (fun q => hne q.1)
theorem ev_gr_rset_ne {G : Geo} {a k i j : Nat} {r : Option Nat} (hne : i ≠ a) : ev_gr (ev_rset G a k r) i j = ev_gr G i j := by
  unfold ev_gr ev_rset
  rw [List.getElem?_modify]
  simp only [if_neg (Ne.symm hne)]
  cases G[i]? <;> rfl
theorem ev_sh_rset {G : Geo} {a k i : Nat} {r : Option Nat} : ev_sh (ev_rset G a k r) i = ev_sh G i := by
  unfold ev_sh ev_rset
  rw [List.getElem?_modify]
  by_cases e : a = i
  · simp only [if_pos e]; cases G[i]? <;> rfl
  · simp only [if_neg e]; cases G[i]? <;> rfl
theorem ev_rset_len {G : Geo} {a k : Nat} {r : Option Nat} : (ev_rset G a k r).length = G.length := by
  unfold ev_rset; rw [List.length_modify]
/-- one cell (a > 0) changes -/
theorem ev_S.upd {b base : Nat} {G G' : Geo} {h h' : Hp} {U : State} {H H' : Heap} (hS : ev_S b base G h U H) {a : Nat} {z : Shp} (ha : 0 < a) (hz : ev_sh G a = some z) (hl : G'.length = G.length) (hsh : ∀ i, ev_sh G' i = ev_sh G i) (hg : ∀ i j, i ≠ a → ev_gr G' i j = ev_gr G i j) (hh : ∀ i j, i ≠ a → h' i j = h i j)
    (hsz : H'.size = H.size) (ho : ∀ q, q ≠ base + a → H'[q]? = H[q]?) (hc : ev_cell b base G' h' U H' a z) : ev_S b base G' h' U H' := by
  obtain ⟨h1, h2, ⟨L, h3, h4⟩, h5⟩ := hS
  refine ⟨h1, by rw [hsz, h2, hl], ⟨L, by rw [hsh]; exact h3, ?_⟩, fun i y hi hy => ?_⟩
  · have e : h' 0 = h 0 := funext fun j => hh 0 j (Nat.ne_of_lt ha)
    rw [e]
    exact h4.kept (ho b (by omega))
  · by_cases e : i = a
    · subst e
      rw [hsh, hz] at hy
      cases hy
      exact hc
    · rw [hsh] at hy
      have hold := h5 i y hi hy
      have hkeep : H'[base + i]? = H[base + i]? := ho _ (by omega)
      have hsv : ∀ (ty : FieldType) (k : Nat), ev_sv b base ty G h i k = ev_sv b base ty G' h' i k := fun ty k => by
        unfold ev_sv; rw [hg i k e, hh i k e]
      cases y with
      | inl c =>
        obtain ⟨q, cC, iS, g1, g2, g3⟩ := hold
        exact ⟨q, cC, iS, g1, g2, (g3.kept hkeep).to (fun k _ => hsv _ k)⟩
      | inr t =>
        obtain ⟨ty, n⟩ := t
        obtain ⟨cA, g1, g2⟩ := hold
        refine ⟨cA, g1, ?_⟩
        rw [hkeep, g2]
        exact congrArg (fun f => some (arrV cA n f)) (funext fun j => hsv ty j)
section EVH
variable {mi : MI} {pc nx tg : Nat} {lo : List (Option Value)} {st : List Value} {G : Geo} {h : Hp} {kc ks : Nat} {Q : Pst}
theorem ev_get {ix a c k : Nat} {v : Value} (hd : ev_at mi pc = some (.getfield ix, nx, tg)) (hn : nx = pc + 3) (hf : ev_fl mi.1.cls ix c k) (ha : 0 < a) (hz : ev_sh G a = some (.inl c)) (hv : ∀ b base, ev_rv b base v = ev_sv b base (tyCl c k) G h a k) (kk : EvQ mi nx lo (v :: st) G h kc ks Q) : EvQ mi pc lo (.ref a :: st) G h kc ks Q := by
  subst hn
  refine ev_up (fun p l e R s m args below meth c0 b base ls H locs cells slots Qf C hL hS w => ?_) kk
  obtain ⟨q, e1, e2, e3, e4, -, -⟩ := hf
  obtain ⟨q', cC, iS, g1, ⟨gS, gfc, kC, gkC, gkind⟩, cell, q1, q2, q3, q4⟩ := hS.obj ha hz
  rw [e1] at g1
  cases g1
  obtain ⟨cf, kf, fi, f, hi, hsl⟩ := gS k e2
  show W p l e R s m args below meth c0 H locs cells slots Qf (F0 m pc ls (.ref (ev_ad b base a) :: st.map (ev_rv b base)))
  refine W.getf C.1 C.2.1 C.2.2.2.2.1 (C.2.2.2.2.2.1 _ e4) hi (u_facts (args := args) gfc gkC (u_lays C.2.2.2.2.2.1 e3 e2) hi).1 (by rw [ev_ad_pos ha]; exact q1) (by rw [q3]; exact fun z => by cases z) (v := ev_rv b base v) ?_ rfl rfl (ev_dec C hd rfl) w
  rw [hsl, q4 k e2, hv]
theorem ev_getI {ix a c k : Nat} (hd : ev_at mi pc = some (.getfield ix, nx, tg)) (hn : nx = pc + 3) (hf : ev_fl mi.1.cls ix c k) (ha : Nat.blt 0 a = true) (hz : ev_sh G a = some (.inl c)) (ht : (tyCl c k).isReference = false) (kk : EvQ mi nx lo (.int (h a k) :: st) G h kc ks Q) : EvQ mi pc lo (.ref a :: st) G h kc ks Q :=
  ev_get hd hn hf (Nat.le_of_ble_eq_true ha) hz (fun b base => by unfold ev_sv; rw [ht]; rfl) kk
theorem ev_getR {ix a c k y : Nat} (hd : ev_at mi pc = some (.getfield ix, nx, tg)) (hn : nx = pc + 3) (hf : ev_fl mi.1.cls ix c k) (ha : Nat.blt 0 a = true) (hz : ev_sh G a = some (.inl c)) (ht : (tyCl c k).isReference = true) (hy : ev_gr G a k = some y) (kk : EvQ mi nx lo (.ref y :: st) G h kc ks Q) : EvQ mi pc lo (.ref a :: st) G h kc ks Q :=
  ev_get hd hn hf (Nat.le_of_ble_eq_true ha) hz (fun b base => by unfold ev_sv; rw [ht, hy]; rfl) kk
theorem ev_getN {ix a c k : Nat} (hd : ev_at mi pc = some (.getfield ix, nx, tg)) (hn : nx = pc + 3) (hf : ev_fl mi.1.cls ix c k) (ha : Nat.blt 0 a = true) (hz : ev_sh G a = some (.inl c)) (ht : (tyCl c k).isReference = true) (hy : ev_gr G a k = none) (kk : EvQ mi nx lo (.null :: st) G h kc ks Q) : EvQ mi pc lo (.ref a :: st) G h kc ks Q :=
  ev_get hd hn hf (Nat.le_of_ble_eq_true ha) hz (fun b base => by unfold ev_sv; rw [ht, hy]; rfl) kk
theorem ev_getV {ix a c k : Nat} {v : Int32} (hd : ev_at mi pc = some (.getfield ix, nx, tg)) (hn : nx = pc + 3) (hf : ev_fl mi.1.cls ix c k) (ha : Nat.blt 0 a = true) (hz : ev_sh G a = some (.inl c)) (ht : (tyCl c k).isReference = false) (hv : h a k = v) (kk : EvQ mi nx lo (.int v :: st) G h kc ks Q) : EvQ mi pc lo (.ref a :: st) G h kc ks Q := by
  subst hv
  exact ev_getI hd hn hf ha hz ht kk
/-- putfield: the machine's part -/
theorem ev_put {ix a c k : Nat} {v : Value} {G' : Geo} {h' : Hp} (hd : ev_at mi pc = some (.putfield ix, nx, tg)) (hn : nx = pc + 3) (hf : ev_fl mi.1.cls ix c k) (hfin : (∃ q : vw_C, vwCl[c]? = some q ∧ (q.2.1 k).2.2.2 = false) ∨ (mi.1.name = "<init>" ∧ ∃ q : vw_C, vwCl[c]? = some q ∧ (q.2.1 k).1 = mi.1.cls)) (ha : 0 < a) (hz : ev_sh G a = some (.inl c))
    (hfit : ∀ b base, narrow (tyCl c k) (ev_rv b base v) = ev_rv b base v ∧ fits (tyCl c k) (ev_rv b base v) = true) (hl : G'.length = G.length) (hsh : ∀ i, ev_sh G' i = ev_sh G i) (hg : ∀ i j, i ≠ a → ev_gr G' i j = ev_gr G i j) (hh : ∀ i j, i ≠ a → h' i j = h i j)
    (hv : ∀ b base, ev_sv b base (tyCl c k) G' h' a k = ev_rv b base v) (hvn : ∀ b base j, j ≠ k → ev_sv b base (tyCl c j) G' h' a j = ev_sv b base (tyCl c j) G h a j) (kk : EvQ mi nx lo st G' h' kc ks Q) : EvQ mi pc lo (v :: .ref a :: st) G h kc ks Q := by
  subst hn
  intro p l e R s m args below meth c0 b base ls H locs cells slots Qf C hL hS hB hcc hss hret
  obtain ⟨q, e1, e2, e3, e4, e5, e6⟩ := hf
  obtain ⟨q', cC, iS, g1, gK, cell, q1, q2, q3, q4⟩ := hS.obj ha hz
  rw [e1] at g1
  cases g1
  obtain ⟨gS, gfc, kC, gkC, gkind⟩ := id gK
  obtain ⟨cf, kf, fi, f, hi, hsl⟩ := gS k e2
  have hts := C.2.2.2.2.2.1
  have hst := (u_facts (args := args) gfc gkC (u_lays hts e3 e2) hi).1
  have hap : ∀ x y, x < q.2.2 → y < q.2.2 → x ≠ y → iS x ≠ iS y := by
    intro x y hx hy hne
    obtain ⟨_, _, _, fa, hia, ea⟩ := gS x hx
    obtain ⟨_, _, _, fb, hib, eb⟩ := gS y hy
    rw [← ea, ← eb]
    refine u_apart (u_lays hts e3 hx) (u_lays hts e3 hy) hia hib ?_
    rw [(State.fieldFound?_type hia (e5 x hx)).1, (State.fieldFound?_type hib (e5 y hy)).1]
    exact e6 x hx y hy hne
  have hlay := hts _ (e3 _ (u_in_lay e2))
  have fin : ∀ H' : Heap, H'[base + a]? = some (cell.setSlot f.slot (ev_rv b base v)) → H'.size = H.size → (∀ x, x ≠ base + a → H'[x]? = H[x]?) → W p l e R s m args below meth c0 H' (locs ++ [⟨base + a, f.slot⟩]) cells slots Qf (F0 m (pc + 3) ls (st.map (ev_rv b base))) := by
    intro H' o1 o2 o3
    refine kk p l e R s m args below meth c0 b base ls H' _ cells slots Qf C hL (hS.upd ha hz hl hsh hg hh o2 o3 ⟨q, cC, iS, e1, gK, ?_⟩) (hB.put (by omega)) hcc hss hret
    rw [hsl] at o1
    refine t_OB.to (V := updV (fun j => ev_sv b base (tyCl c j) G h a j) k (ev_rv b base v)) ⟨_, o1, q2, q3, t_set q4 hap e2 (ev_rv b base v)⟩ (fun j _ => ?_)
    by_cases hj : j = k
    · subst hj; rw [hv]; simp [updV]
    · rw [hvn b base j hj]; simp [updV, hj]
  have hcell : H[base + a]? = some cell := q1
  show W p l e R s m args below meth c0 H locs cells slots Qf (F0 m pc ls (ev_rv b base v :: .ref (ev_ad b base a) :: st.map (ev_rv b base)))
  rw [ev_ad_pos ha]
  unfold u_lay at hlay
  cases hb : (q.2.1 k).2.2.2 with
  | false =>
    rw [if_neg (by rw [hb]; decide)] at hlay
    have h6 := u_store (v := ev_rv b base v) gfc gkC gkind hlay hi (e5 k e2) (hfit b base).1 (hfit b base).2
    exact W.putK C.1 C.2.1 (f := f) ⟨C.2.2.2.2.1, hts _ e4, ⟨_, _, _, hi⟩, hst⟩ (by rw [q2]; exact h6) hcell q3 (by rw [hsl]; exact k2_hasslot (q4 k e2)) rfl rfl (ev_dec C hd rfl) fin
  | true =>
    rw [if_pos hb] at hlay
    obtain ⟨hin0, e7⟩ : mi.1.name = "<init>" ∧ (q.2.1 k).1 = mi.1.cls := by
      rcases hfin with ⟨q'', z1, z2⟩ | ⟨z, q'', z1, z2⟩
      · rw [e1] at z1; cases z1; rw [hb] at z2; cases z2
      · rw [e1] at z1; cases z1; exact ⟨z, z2⟩
    have hin : meth.name = "<init>" := C.2.2.2.2.2.2.2.1 hin0
    have hcf : m.cls = cf := by
      obtain ⟨_, _, c', _, _, _, -, -, hf', -, -, -, hown2, -⟩ := Cond.laysFinal_spec hlay
      have z1 : c' = cf := by have := hi.symm.trans hf'; simp at this; exact this.1.symm
      rw [e7] at hown2
      rw [← z1]; exact Option.some.inj (C.2.2.2.2.1.symm.trans hown2)
    have h6 := u_fits (v := ev_rv b base v) gfc gkC gkind (Or.inr hlay) hi (e5 k e2) (hfit b base).1 (hfit b base).2
    exact W.putFinK C.1 C.2.1 C.2.2.2.2.1 (hts _ e4) hi hst hcf hin (by rw [q2]; exact h6) hcell q3 (by rw [hsl]; exact k2_hasslot (q4 k e2)) rfl rfl (ev_dec C hd rfl) fin
theorem ev_putX {ix a c k : Nat} {x : Int32} (hd : ev_at mi pc = some (.putfield ix, nx, tg)) (hn : nx = pc + 3) (hf : ev_fl mi.1.cls ix c k) (hfin : (∃ q : vw_C, vwCl[c]? = some q ∧ (q.2.1 k).2.2.2 = false) ∨ (mi.1.name = "<init>" ∧ ∃ q : vw_C, vwCl[c]? = some q ∧ (q.2.1 k).1 = mi.1.cls)) (ha : 0 < a) (hz : ev_sh G a = some (.inl c)) (ht : (tyCl c k).isReference = false)
    (hfit : narrow (tyCl c k) (.int x) = .int x ∧ fits (tyCl c k) (.int x) = true) (kk : EvQ mi nx lo st G (ev_set h a k x) kc ks Q) : EvQ mi pc lo (.int x :: .ref a :: st) G h kc ks Q := by
  refine ev_put (v := .int x) hd hn hf hfin ha hz (fun _ _ => hfit) rfl (fun _ => rfl) (fun _ _ _ => rfl) (fun i j hi => ev_set_ne hi) (fun b base => ?_) (fun b base j hj => ?_) kk
  · unfold ev_sv; rw [ht]
    show Value.int (ev_set h a k x a k) = .int x
    unfold ev_set; rw [if_pos ⟨rfl, rfl⟩]
  · have e : ev_set h a k x a j = h a j := if_neg (fun q => hj q.2)
    unfold ev_sv
    dsimp only
    rw [e]
theorem ev_putI {ix a c k : Nat} {x : Int32} {q : vw_C} (hd : ev_at mi pc = some (.putfield ix, nx, tg)) (hn : nx = pc + 3) (hf : ev_fl mi.1.cls ix c k) (hq : vwCl[c]? = some q) (hfin : (q.2.1 k).2.2.2 = false) (ha : Nat.blt 0 a = true) (hz : ev_sh G a = some (.inl c)) (ht : tyCl c k = .int)
    (kk : EvQ mi nx lo st G (ev_set h a k x) kc ks Q) : EvQ mi pc lo (.int x :: .ref a :: st) G h kc ks Q :=
  ev_putX hd hn hf (Or.inl ⟨q, hq, hfin⟩) (Nat.le_of_ble_eq_true ha) hz (by rw [ht]; rfl) (by rw [ht]; exact ⟨rfl, rfl⟩) kk
theorem ev_z01 {x : Int32} (hx : x = 0 ∨ x = 1) : narrow .boolean (.int x) = .int x ∧ fits .boolean (.int x) = true := by
  rcases hx with rfl | rfl <;> decide
theorem ev_putZ {ix a c k : Nat} {x : Int32} {q : vw_C} (hd : ev_at mi pc = some (.putfield ix, nx, tg)) (hn : nx = pc + 3) (hf : ev_fl mi.1.cls ix c k) (hq : vwCl[c]? = some q) (hfin : (q.2.1 k).2.2.2 = false) (ha : Nat.blt 0 a = true) (hz : ev_sh G a = some (.inl c)) (ht : tyCl c k = .boolean) (hx : x = 0 ∨ x = 1)
    (kk : EvQ mi nx lo st G (ev_set h a k x) kc ks Q) : EvQ mi pc lo (.int x :: .ref a :: st) G h kc ks Q :=
  ev_putX hd hn hf (Or.inl ⟨q, hq, hfin⟩) (Nat.le_of_ble_eq_true ha) hz (by rw [ht]; rfl) (by rw [ht]; exact ev_z01 hx) kk
theorem ev_gr_rset {G : Geo} {a k : Nat} {r : Option Nat} (hk : ∃ c, G[a]? = some c ∧ k < c.2.length) : ev_gr (ev_rset G a k r) a k = r := by
  obtain ⟨c, h1, h2⟩ := hk
  unfold ev_gr ev_rset
  rw [List.getElem?_modify_eq, h1]
  show (match (c.2.set k r)[k]? with | none => none | some r => r) = r
  rw [List.getElem?_set_self h2]
theorem ev_gr_rset_k {G : Geo} {a k j : Nat} {r : Option Nat} (hj : j ≠ k) : ev_gr (ev_rset G a k r) a j = ev_gr G a j := by
  unfold ev_gr ev_rset
  rw [List.getElem?_modify_eq]
  cases hc : G[a]? with
  | none => rfl
  | some c =>
    show (match (c.2.set k r)[j]? with | none => none | some r => r) = _
    rw [List.getElem?_set_ne (Ne.symm hj)]
    rfl
def ev_wide (G : Geo) (a k : Nat) : Bool := match G[a]? with
  | none => false
  | some c => Nat.blt k c.2.length
theorem ev_wide_of {G : Geo} {a k : Nat} (h : ev_wide G a k = true) : ∃ c, G[a]? = some c ∧ k < c.2.length := by
  unfold ev_wide at h
  cases hc : G[a]? with
  | none => rw [hc] at h; cases h
  | some c => rw [hc] at h; exact ⟨c, rfl, Nat.le_of_ble_eq_true h⟩
theorem ev_ref_fits {ty : FieldType} (ht : ty.isReference = true) (b base : Nat) (r : Option Nat) : narrow ty (ev_rv b base (ev_vf r)) = ev_rv b base (ev_vf r) ∧ fits ty (ev_rv b base (ev_vf r)) = true := by
  cases r <;> cases ty <;> first | (exact ⟨rfl, rfl⟩) | (cases ht)
theorem ev_putR0 {ix a c k : Nat} (r : Option Nat) (hd : ev_at mi pc = some (.putfield ix, nx, tg)) (hn : nx = pc + 3) (hf : ev_fl mi.1.cls ix c k) (hfin : (∃ q : vw_C, vwCl[c]? = some q ∧ (q.2.1 k).2.2.2 = false) ∨ (mi.1.name = "<init>" ∧ ∃ q : vw_C, vwCl[c]? = some q ∧ (q.2.1 k).1 = mi.1.cls)) (ha : Nat.blt 0 a = true) (hz : ev_sh G a = some (.inl c)) (ht : (tyCl c k).isReference = true) (hw : ev_wide G a k = true)
    (kk : EvQ mi nx lo st (ev_rset G a k r) h kc ks Q) : EvQ mi pc lo (ev_vf r :: .ref a :: st) G h kc ks Q := by
  refine ev_put (v := ev_vf r) (G' := ev_rset G a k r) (h' := h) hd hn hf hfin (Nat.le_of_ble_eq_true ha) hz (fun b base => ev_ref_fits ht b base r) ev_rset_len (fun i => ev_sh_rset) (fun i j hi => ev_gr_rset_ne hi) (fun _ _ _ => rfl) (fun b base => ?_) (fun b base j hj => ?_) kk
  · unfold ev_sv
    rw [if_pos ht, ev_gr_rset (ev_wide_of hw), ev_rv_vf]
  · unfold ev_sv
    rw [ev_gr_rset_k hj]
theorem ev_putR {ix a c k y : Nat} (hd : ev_at mi pc = some (.putfield ix, nx, tg)) (hn : nx = pc + 3) (hf : ev_fl mi.1.cls ix c k) (hfin : (∃ q : vw_C, vwCl[c]? = some q ∧ (q.2.1 k).2.2.2 = false) ∨ (mi.1.name = "<init>" ∧ ∃ q : vw_C, vwCl[c]? = some q ∧ (q.2.1 k).1 = mi.1.cls)) (ha : Nat.blt 0 a = true) (hz : ev_sh G a = some (.inl c)) (ht : (tyCl c k).isReference = true) (hw : ev_wide G a k = true)
    (kk : EvQ mi nx lo st (ev_rset G a k (some y)) h kc ks Q) : EvQ mi pc lo (.ref y :: .ref a :: st) G h kc ks Q := ev_putR0 (some y) hd hn hf hfin ha hz ht hw kk
theorem ev_putN {ix a c k : Nat} (hd : ev_at mi pc = some (.putfield ix, nx, tg)) (hn : nx = pc + 3) (hf : ev_fl mi.1.cls ix c k) (hfin : (∃ q : vw_C, vwCl[c]? = some q ∧ (q.2.1 k).2.2.2 = false) ∨ (mi.1.name = "<init>" ∧ ∃ q : vw_C, vwCl[c]? = some q ∧ (q.2.1 k).1 = mi.1.cls)) (ha : Nat.blt 0 a = true) (hz : ev_sh G a = some (.inl c)) (ht : (tyCl c k).isReference = true) (hw : ev_wide G a k = true)
    (kk : EvQ mi nx lo st (ev_rset G a k none) h kc ks Q) : EvQ mi pc lo (.null :: .ref a :: st) G h kc ks Q := ev_putR0 none hd hn hf hfin ha hz ht hw kk
/-! arrays -/
theorem ev_ivp {i : Int32} {n : Nat} {cell : Cell} (hin : vp_in i n) (hs : cell.slots.size = n) : ¬ (i < 0 ∨ cell.slots.size ≤ i.toNatClampNeg) := by rw [hs]; exact hin
theorem ev_lt_of_in {i : Int32} {n : Nat} (hin : vp_in i n) : i.toNatClampNeg < n := Nat.not_le.mp fun q => hin (Or.inr q)
theorem ev_iald {a n j : Nat} {i : Int32} (hd : ev_at mi pc = some (.iaload, nx, tg)) (hn : nx = pc + 1) (hz : ev_sh G a = some (.inr (.int, n))) (hin : vp_in i n) (hj : i.toNatClampNeg = j) (kk : EvQ mi nx lo (.int (h a j) :: st) G h kc ks Q) : EvQ mi pc lo (.int i :: .ref a :: st) G h kc ks Q := by
  subst hn
  subst hj
  refine ev_up (fun p l e R s m args below meth c0 b base ls H locs cells slots Qf C hL hS w => ?_) kk
  obtain ⟨cell, q1, q2, q3, q4, q5⟩ := hS.arr hz
  exact W.iald C.1 C.2.1 q1 q2 q3 (ev_ivp hin q4) (q5 _ (ev_lt_of_in hin)) rfl rfl (ev_dec C hd rfl) w
theorem ev_iadV {a n j : Nat} {i v : Int32} (hd : ev_at mi pc = some (.iaload, nx, tg)) (hn : nx = pc + 1) (hz : ev_sh G a = some (.inr (.int, n))) (hin : vp_in i n) (hj : i.toNatClampNeg = j) (hv : h a j = v) (kk : EvQ mi nx lo (.int v :: st) G h kc ks Q) : EvQ mi pc lo (.int i :: .ref a :: st) G h kc ks Q := by
  subst hv
  exact ev_iald hd hn hz hin hj kk
theorem ev_zald {a n j : Nat} {i : Int32} (hd : ev_at mi pc = some (.baload, nx, tg)) (hn : nx = pc + 1) (hz : ev_sh G a = some (.inr (.boolean, n))) (hin : vp_in i n) (hj : i.toNatClampNeg = j) (kk : EvQ mi nx lo (.int (h a j) :: st) G h kc ks Q) : EvQ mi pc lo (.int i :: .ref a :: st) G h kc ks Q := by
  subst hn
  subst hj
  refine ev_up (fun p l e R s m args below meth c0 b base ls H locs cells slots Qf C hL hS w => ?_) kk
  obtain ⟨cell, q1, q2, q3, q4, q5⟩ := hS.arr hz
  exact W.zald C.1 C.2.1 q1 q2 q3 (ev_ivp hin q4) (q5 _ (ev_lt_of_in hin)) rfl rfl (ev_dec C hd rfl) w
theorem ev_bald {a n j : Nat} {i : Int32} (hd : ev_at mi pc = some (.baload, nx, tg)) (hn : nx = pc + 1) (hz : ev_sh G a = some (.inr (.byte, n))) (hin : vp_in i n) (hj : i.toNatClampNeg = j) (kk : EvQ mi nx lo (.int (h a j) :: st) G h kc ks Q) : EvQ mi pc lo (.int i :: .ref a :: st) G h kc ks Q := by
  subst hn
  subst hj
  refine ev_up (fun p l e R s m args below meth c0 b base ls H locs cells slots Qf C hL hS w => ?_) kk
  obtain ⟨cell, q1, q2, q3, q4, q5⟩ := hS.arr hz
  exact W.bald C.1 C.2.1 q1 q2 q3 (ev_ivp hin q4) (q5 _ (ev_lt_of_in hin)) rfl rfl (ev_dec C hd rfl) w
theorem ev_aald {a n y j : Nat} {ty : FieldType} {i : Int32} (hd : ev_at mi pc = some (.aaload, nx, tg)) (hn : nx = pc + 1) (hz : ev_sh G a = some (.inr (ty, n))) (ht : ty.isReference = true) (hin : vp_in i n) (hj : i.toNatClampNeg = j) (hy : ev_gr G a j = some y) (kk : EvQ mi nx lo (.ref y :: st) G h kc ks Q) : EvQ mi pc lo (.int i :: .ref a :: st) G h kc ks Q := by
  subst hn
  subst hj
  refine ev_up (fun p l e R s m args below meth c0 b base ls H locs cells slots Qf C hL hS w => ?_) kk
  obtain ⟨cell, q1, q2, q3, q4, q5⟩ := hS.arr hz
  refine W.aald C.1 C.2.1 q1 q2 ht q3 (ev_ivp hin q4) (v := .ref (ev_ad b base y)) ?_ rfl rfl (ev_dec C hd rfl) w
  rw [q5 _ (ev_lt_of_in hin)]
  unfold ev_sv
  rw [if_pos ht, hy]
  rfl
theorem ev_alen {a n : Nat} {ty : FieldType} (hd : ev_at mi pc = some (.arraylength, nx, tg)) (hn : nx = pc + 1) (hz : ev_sh G a = some (.inr (ty, n))) (kk : EvQ mi nx lo (.int (nI n) :: st) G h kc ks Q) : EvQ mi pc lo (.ref a :: st) G h kc ks Q := by
  subst hn
  refine ev_up (fun p l e R s m args below meth c0 b base ls H locs cells slots Qf C hL hS w => ?_) kk
  obtain ⟨cell, q1, q2, q3, q4, q5⟩ := hS.arr hz
  exact W.alen C.1 C.2.1 q1 q2 (by rw [q4]; rfl) rfl rfl (ev_dec C hd rfl) w
/-- behind a store: the cell has the new value -/
theorem ev_S.stored {b base : Nat} {U : State} {H H' : Heap} (hS : ev_S b base G h U H) {a n k : Nat} {x : Int32} {ty : FieldType} {cA : ClassId} (ha : 0 < a) (hz : ev_sh G a = some (.inr (ty, n))) (ht : ty.isReference = false) (hA : ArrOfT U cA ty)
    (o1 : H'[base + a]? = some ((arrV cA n (fun j => ev_sv b base ty G h a j)).setSlot k (.int x))) (o2 : H'.size = H.size) (o3 : ∀ q, q ≠ base + a → H'[q]? = H[q]?) : ev_S b base G (ev_set h a k x) U H' := by
  refine hS.upd ha hz rfl (fun _ => rfl) (fun _ _ _ => rfl) (fun i j hi => ev_set_ne hi) o2 o3 ⟨cA, hA, ?_⟩
  rw [o1, arrV_store]
  refine congrArg (fun f => some (arrV cA n f)) (funext fun j => ?_)
  unfold ev_sv ev_set
  rw [ht]
  by_cases e : j = k
  · subst e; simp [updV]
  · simp [updV, e]
theorem ev_iast {a n j : Nat} {i x : Int32} (hd : ev_at mi pc = some (.iastore, nx, tg)) (hn : nx = pc + 1) (ha : Nat.blt 0 a = true) (hz : ev_sh G a = some (.inr (.int, n))) (hin : vp_in i n) (hj : i.toNatClampNeg = j) (kk : EvQ mi nx lo st G (ev_set h a j x) kc ks Q) : EvQ mi pc lo (.int x :: .int i :: .ref a :: st) G h kc ks Q := by
  subst hn
  subst hj
  have ha : 0 < a := Nat.le_of_ble_eq_true ha
  intro p l e R s m args below meth c0 b base ls H locs cells slots Qf C hL hS hB hcc hss hret
  obtain ⟨cA, g1, g2⟩ := hS.2.2.2 a _ ha hz
  show W p l e R s m args below meth c0 H locs cells slots Qf (F0 m pc ls (.int x :: .int i :: .ref (ev_ad b base a) :: st.map (ev_rv b base)))
  rw [ev_ad_pos ha]
  exact W.iast C.1 C.2.1 g2 (g1 _ _) (fun q => by cases q) (ev_ivp hin (arrV_size _ _ _)) rfl rfl (ev_dec C hd rfl) (fun H' o1 o2 o3 => kk p l e R s m args below meth c0 b base ls H' _ cells slots Qf C hL (hS.stored ha hz rfl g1 o1 o2 o3) (hB.put (by omega)) hcc hss hret)
theorem ev_bast {a n j : Nat} {i x : Int32} (hd : ev_at mi pc = some (.bastore, nx, tg)) (hn : nx = pc + 1) (ha : Nat.blt 0 a = true) (hz : ev_sh G a = some (.inr (.byte, n))) (hin : vp_in i n) (hj : i.toNatClampNeg = j) (kk : EvQ mi nx lo st G (ev_set h a j x.toInt8.toInt32) kc ks Q) : EvQ mi pc lo (.int x :: .int i :: .ref a :: st) G h kc ks Q := by
  subst hn
  subst hj
  have ha : 0 < a := Nat.le_of_ble_eq_true ha
  intro p l e R s m args below meth c0 b base ls H locs cells slots Qf C hL hS hB hcc hss hret
  obtain ⟨cA, g1, g2⟩ := hS.2.2.2 a _ ha hz
  show W p l e R s m args below meth c0 H locs cells slots Qf (F0 m pc ls (.int x :: .int i :: .ref (ev_ad b base a) :: st.map (ev_rv b base)))
  rw [ev_ad_pos ha]
  exact W.bast C.1 C.2.1 g2 (g1 _ _) (fun q => by cases q) (ev_ivp hin (arrV_size _ _ _)) rfl rfl (ev_dec C hd rfl) (fun H' o1 o2 o3 => kk p l e R s m args below meth c0 b base ls H' _ cells slots Qf C hL (hS.stored ha hz rfl g1 o1 o2 o3) (hB.put (by omega)) hcc hss hret)
theorem ev_zast {a n j : Nat} {i x : Int32} (hd : ev_at mi pc = some (.bastore, nx, tg)) (hn : nx = pc + 1) (ha : Nat.blt 0 a = true) (hz : ev_sh G a = some (.inr (.boolean, n))) (hin : vp_in i n) (hj : i.toNatClampNeg = j) (hx : x = 0 ∨ x = 1) (kk : EvQ mi nx lo st G (ev_set h a j x) kc ks Q) : EvQ mi pc lo (.int x :: .int i :: .ref a :: st) G h kc ks Q := by
  subst hn
  subst hj
  have ha : 0 < a := Nat.le_of_ble_eq_true ha
  intro p l e R s m args below meth c0 b base ls H locs cells slots Qf C hL hS hB hcc hss hret
  obtain ⟨cA, g1, g2⟩ := hS.2.2.2 a _ ha hz
  show W p l e R s m args below meth c0 H locs cells slots Qf (F0 m pc ls (.int x :: .int i :: .ref (ev_ad b base a) :: st.map (ev_rv b base)))
  rw [ev_ad_pos ha]
  refine W.zast C.1 C.2.1 g2 (g1 _ _) (fun q => by cases q) (ev_ivp hin (arrV_size _ _ _)) rfl rfl (ev_dec C hd rfl) (fun H' o1 o2 o3 => ?_)
  rw [(ev_z01 hx).1] at o1
  exact kk p l e R s m args below meth c0 b base ls H' _ cells slots Qf C hL (hS.stored ha hz rfl g1 o1 o2 o3) (hB.put (by omega)) hcc hss hret
end EVH

