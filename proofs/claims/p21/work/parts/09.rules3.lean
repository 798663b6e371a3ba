/-! methods: EvM is a contract over the abstract heap; calls -/
def ev_ws (mi : MI) : List Cond := .code mi.1 (mi_C mi) (mi_L mi) (mi_R mi) :: gwl
def ev_rm (mi : MI) (kc ks : Nat) : Room := { frames := mi_F mi, cells := kc, slots := ks, locals := mi_S mi }
def ev_Pc (b base : Nat) (args : List Value) (G : Geo) (h : Hp) : Array Value → State → Prop := fun v U => v = (args.map (ev_rv b base)).toArray ∧ ev_S b base G h U U.heap ∧ ev_N U
def ev_Qc (b base : Nat) (ret : Option FieldType) (Q : Pst) : Array Value → State → Outcome → State → Prop := fun _ _ o t => ∃ (v : Option Value) (G' : Geo) (h' : Hp), o = .returned (v.map (ev_rv b base)) ∧ Q v G' h' ∧ ev_rt ret v ∧ ev_S b base G' h' t t.heap
def EvM (mi : MI) (args : List Value) (G : Geo) (h : Hp) (kc ks : Nat) (Q : Pst) : Prop := ∀ (l : Launch) (b base : Nat), Met l mi.1 (ev_ws mi) (ev_rm mi kc ks) (ev_Pc b base args G h) (ev_Qc b base (mi_R mi) Q) kc ks (fun q => base < q)
theorem ev_N.same {u U : State} (hvm : u.vm = U.vm) (h : ev_N u) : ev_N U := ⟨fun q hq => va_Nw.same rfl hvm (h.1 q hq), over_moved (by rw [hvm]; exact Vm.Alike.refl U.vm) h.2⟩
theorem ev_Pc_blind (b base : Nat) (args : List Value) (G : Geo) (h : Hp) : FrameBlind (ev_Pc b base args G h) := by
  intro a U g mk hP
  obtain ⟨q1, q2, q3⟩ := hP
  exact ⟨q1, ev_S.moved (U := U.calling g mk a) (Vm.Alike.refl U.vm) q2, ev_N.same (U := U.calling g mk a) rfl q3⟩
theorem ev_rt_none {ret : Option FieldType} (h : ev_rt ret none) : ret = none := by
  cases ret with
  | none => rfl
  | some ty => cases h
theorem ev_rt_some {ret : Option FieldType} {w : Value} (h : ev_rt ret (some w)) : ∃ (ty : FieldType) (x : Int32), ret = some ty ∧ w = .int x ∧ narrow ty (.int x) = .int x := by
  cases ret with
  | none => cases h
  | some ty =>
    cases w with
    | int x => exact ⟨ty, x, rfl, rfl, h⟩
    | _ => cases h
theorem ev_body {l : Launch} {b base : Nat} {mi : MI} {args : List Value} {G : Geo} {h : Hp} {kc ks : Nat} {Q : Pst} (k : EvQ mi 0 (ev_lo (mi_L mi) args) [] G h kc ks Q) (hok : ev_ok mi) (hlen : Nat.ble (ev_al args).length (mi_L mi) = true) : ∀ p e s m av below meth c s₁, BodyLoose p l mi.1 (headSpec (ev_ws mi) (ev_rm mi kc ks)) (mi_C mi) (mi_L mi) (mi_R mi) e s m av below meth c s₁ → c.maxLocals = mi_L mi → ev_Pc b base args G h av s →
      W p l e (headSpec (ev_ws mi) (ev_rm mi kc ks)).room s m av below meth c s.heap [] 0 0 (MQ below (ev_Qc b base (mi_R mi) Q) av s kc ks (fun q => base < q)) (entryFrame m av (mi_L mi)) := by
  intro p e s m av below meth c s₁ B hml hv
  obtain ⟨rfl, hS, hN⟩ := hv
  have hts0 := atoms_spec (ws := ev_ws mi) B.pre
  have C : ev_C mi p (headSpec (ev_ws mi) (ev_rm mi kc ks)).room s m (args.map (ev_rv b base)).toArray meth c := ⟨B.exec, B.bytes, hml, B.returns, findClass_of_methodNamed B.named, fun w hw => hts0 w (List.mem_cons_of_mem _ hw), B.notSynchronized, (fun z => (name_of_methodNamed B.named B.method).1.trans z), Nat.le_refl _, Nat.le_refl _, hN, hok⟩
  have hl := lv_entry (args.map (ev_rv b base)) (n := mi_L mi) (by rw [ev_al_len]; exact Nat.le_of_ble_eq_true hlen)
  have hr := B.returns
  have hlocks : meth.locks = false := B.notSynchronized
  rw [lg_entry_eq]
  generalize ((lg_sl (args.map (ev_rv b base)) ++ List.replicate (mi_L mi - (lg_sl (args.map (ev_rv b base))).length) Slot.unset).toArray) = ls at hl ⊢
  refine k p l e _ s m _ below meth c b base ls s.heap [] 0 0 _ C ⟨_, hl, fun i v hv => ev_lo_in b base (mi_L mi) args i v hv⟩ hS (fun q hq => by cases hq) (by show 0 + kc ≤ kc; omega) (by show 0 + ks ≤ ks; omega) ?_
  intro v G' h' pc' nx tg ls' H' locs' hq hrt hS' hB' hd hn
  have hdd := ev_dec C hd hn
  refine W.cs (Nat.zero_add kc) (Nat.zero_add ks) ?_
  have hQ : ∀ t : State, t.heap = H' → s.WarmedH t.vm → ev_Qc b base (mi_R mi) Q (args.map (ev_rv b base)).toArray s (.returned (v.map (ev_rv b base))) t := fun t ht hW => ⟨v, G', h', rfl, hq, hrt, by rw [ht]; exact hS'.moved hW.alike⟩
  cases v with
  | none => exact W.vret B.exec B.bytes (by rw [hr]; exact ev_rt_none hrt) hQ hB' hdd hlocks
  | some w =>
    obtain ⟨ty, x, z1, rfl, z2⟩ := ev_rt_some hrt
    exact W.zret (ty := ty) B.exec B.bytes (by rw [hr, z1]) z2 hQ hB' hdd hlocks
theorem EvM.of {mi : MI} {args : List Value} {G : Geo} {h : Hp} {kc ks : Nat} {Q : Pst} (hp : plainName mi.1.cls = true ∨ plainFor mi.1 = true) (hok : ev_ok mi) (hlen : Nat.ble (ev_al args).length (mi_L mi) = true) (k : EvQ mi 0 (ev_lo (mi_L mi) args) [] G h kc ks Q) : EvM mi args G h kc ks Q := by
  intro l b base
  have body : ∀ p e s m av below meth c s₁, BodyLoose p l mi.1 (headSpec (ev_ws mi) (ev_rm mi kc ks)) (mi_C mi) (mi_L mi) (mi_R mi) e s m av below meth c s₁ → c.maxLocals = mi_L mi → ev_Pc b base args G h av s →
      W p l e (headSpec (ev_ws mi) (ev_rm mi kc ks)).room s m av below meth c s.heap [] 0 0 (MQ below (ev_Qc b base (mi_R mi) Q) av s kc ks (fun q => base < q)) (entryFrame m av (mi_L mi)) := by
   intro p e s m av below meth c s₁ B hml hv
   exact ev_body k hok hlen p e s m av below meth c s₁ B hml hv
  rcases hp with hp | hp
  · exact Met.ofW (cc := mi_C mi) (maxL := mi_L mi) (ret := mi_R mi) hp rfl body
  · exact va_MetF (cc := mi_C mi) (maxL := mi_L mi) (ret := mi_R mi) hp rfl body
theorem EvM.mono {mi : MI} {args : List Value} {G : Geo} {h : Hp} {kc ks : Nat} {Q Q' : Pst} (k : EvM mi args G h kc ks Q) (hq : ∀ v G' h', Q v G' h' → Q' v G' h') : EvM mi args G h kc ks Q' := by
  intro l b base p e ha hc hk s m av below hf hap hP hK
  obtain ⟨n, o, h1, h2, h3, ⟨⟨v, G', h', g1, g2, g3, g4⟩, h5⟩⟩ := k l b base p e ha hc hk s m av below hf hap hP hK
  exact ⟨n, o, h1, h2, h3, ⟨⟨v, G', h', g1, hq _ _ _ g2, g3, g4⟩, h5⟩⟩
/-- behind a call -/
theorem ev_run {p : Program} {l : Launch} {e : Env} {R : Room} {s : State} {m : MethodId} {args : Array Value} {below : List Frame} {meth : Method} {c : Code} {H : Heap} {locs : List Loc} {cells slots kc1 ks1 : Nat} {Qf : State → Prop} {pc : Nat} {ls : Array Slot} {st0 rest : List Value} {aa : Array Value} {b base : Nat} {ret : Option FieldType} {Q1 : Pst}
    (hr : va_Run p l e R s m args below meth c H locs cells slots kc1 ks1 (F0 m pc ls st0) rest (ev_Qc b base ret Q1 aa) (fun q => base < q)) (hB : ev_B base locs)
    (kk : ∀ (v : Option Value) (G' : Geo) (h' : Hp) (H1 : Heap) (locs1 : List Loc), Q1 v G' h' → ev_rt ret v → ev_S b base G' h' s H1 → ev_B base locs1 → W p l e R s m args below meth c H1 locs1 (cells + kc1) (slots + ks1) Qf (F0 m (pc + 3) ls ((v.map (ev_rv b base)).toList ++ rest))) : W p l e R s m args below meth c H locs cells slots Qf (F0 m pc ls st0) := by
  intro T hT X
  obtain ⟨v, st₀, t, T', L, h0, X', hL, e1, e2, ⟨v', G', h', hv, hq, hrt, hS'⟩, st⟩ := hr T hT X
  cases hv
  have hal : t.vm.Alike s.vm := by rw [← e2]; exact X'.warmed.alike.symm
  obtain ⟨t2, a1, b1⟩ := kk v' G' h' T'.heap (locs ++ L) hq hrt (by rw [e1]; exact hS'.moved hal) (hB.app hL) T' rfl X'
  exact ⟨t2, st t2 a1, b1⟩
abbrev ev_room (mi ce : MI) : Prop := (Nat.ble (mi_F ce + 1) (mi_F mi) && Nat.ble (8 + (mi_L ce + 11) + mi_S ce) (mi_S mi)) = true
theorem ev_room_of {mi ce : MI} (h : ev_room mi ce) {R : Room} (h1 : mi_F mi ≤ R.frames) (h2 : mi_S mi ≤ R.locals) : mi_F ce + 1 ≤ R.frames ∧ 8 + (mi_L ce + 11) + mi_S ce ≤ R.locals := by
  unfold ev_room at h
  rw [Bool.and_eq_true] at h
  have z1 := Nat.le_of_ble_eq_true h.1
  have z2 := Nat.le_of_ble_eq_true h.2
  exact ⟨by omega, by omega⟩
theorem ev_ws_good {mi : MI} (h : Cond.code mi.1 (mi_C mi) (mi_L mi) (mi_R mi) ∈ gwl) : GoodIn gwl (ev_ws mi) := by
  intro w hw
  rcases List.mem_cons.mp hw with rfl | hw
  · exact gwl_good _ h
  · exact gwl_good _ hw
theorem ev_sum (b base : Nat) : ∀ st : List Value, ((st.map (ev_rv b base)).map fun v => v.category).sum = (st.map fun v => v.category).sum
  | [] => rfl
  | v :: st => by rw [List.map_cons, List.map_cons, List.map_cons, List.sum_cons, List.sum_cons, ev_rv_cat, ev_sum b base st]
theorem ev_Pc_at {b base : Nat} {G : Geo} {h : Hp} {s : State} {H : Heap} (hS : ev_S b base G h s H) (hN : ev_N s) (args : List Value) : ∀ U : State, U.heap = H → s.WarmedH U.vm → ev_Pc b base args G h (args.map (ev_rv b base)).toArray U := fun U hU hW => ⟨rfl, by rw [hU]; exact hS.moved hW.alike, hN.moved hW⟩
section EVC
variable {mi ce : MI} {pc nx tg ix n : Nat} {lo : List (Option Value)} {st : List Value} {G : Geo} {h : Hp} {kc ks kc1 ks1 : Nat} {Q Q1 : Pst}
/-- the call is run, whatever kind it is of -/
theorem ev_call {As : List Value} {recv : List Value} (hn : nx = pc + 3)
    (hr : ∀ (p : Program) (l : Launch) (e : Env) (R : Room) (s : State) (m : MethodId) (args : Array Value) (below : List Frame) (meth : Method) (c : Code) (b base : Nat) (ls : Array Slot) (H : Heap) (locs : List Loc) (cells slots : Nat), ev_C mi p R s m args meth c → ls.size = mi_L mi → ev_S b base G h s H → cells + kc1 ≤ R.cells → slots + ks1 ≤ R.slots → ∃ aa : Array Value,
      va_Run p l e R s m args below meth c H locs cells slots kc1 ks1 (F0 m pc ls ((As.reverse ++ recv ++ st).map (ev_rv b base))) (st.map (ev_rv b base)) (ev_Qc b base (mi_R ce) Q1 aa) (fun q => base < q))
    (kk : ∀ v G' h', Q1 v G' h' → ev_rt (mi_R ce) v → EvQ mi nx lo (v.toList ++ st) G' h' kc ks Q) : EvQ mi pc lo (As.reverse ++ recv ++ st) G h (kc1 + kc) (ks1 + ks) Q := by
  subst hn
  intro p l e R s m args below meth c b base ls H locs cells slots Qf C hL hS hB hcc hss hret
  obtain ⟨aa, hrun⟩ := hr p l e R s m args below meth c b base ls H locs cells slots C (by obtain ⟨l0, hl, -⟩ := hL; exact hl.1) hS (by omega) (by omega)
  refine ev_run hrun hB (fun v G' h' H1 locs1 hq hrt hS1 hB1 => ?_)
  have key := kk v G' h' hq hrt p l e R s m args below meth c b base ls H1 locs1 (cells + kc1) (slots + ks1) Qf C hL hS1 hB1 (by omega) (by omega) (fun v2 G2 h2 pc2 nx2 tg2 ls2 H2 locs2 q1 q2 q3 q4 q5 q6 => by
    have := hret v2 G2 h2 pc2 nx2 tg2 ls2 H2 locs2 q1 q2 q3 q4 q5 q6
    rw [← Nat.add_assoc, ← Nat.add_assoc] at this
    exact this)
  rw [List.map_append] at key
  cases v with
  | none => exact key
  | some w => exact key
theorem ev_invS0 {As : List Value} (hd : ev_at mi pc = some (.invokestatic ix, nx, tg)) (hn : nx = pc + 3) (hk : ev_lk mi.1.cls ix ce n) (hst : Cond.static ce.1 ∈ gwl) (hlen : As.length = n) (hR : ev_room mi ce) (hw : (st.map fun v => v.category).sum ≤ 8) (hM : EvM ce As G h kc1 ks1 Q1)
    (kk : ∀ v G' h', Q1 v G' h' → ev_rt (mi_R ce) v → EvQ mi nx lo (v.toList ++ st) G' h' kc ks Q) : EvQ mi pc lo (As.reverse ++ [] ++ st) G h (kc1 + kc) (ks1 + ks) Q := by
  obtain ⟨k1, k2, k3, k4, k5, k6⟩ := hk
  refine ev_call (ce := ce) (Q1 := Q1) (recv := []) hn (fun p l e R s m args below meth c b base ls H locs cells slots C hls hS hcc hss => ⟨(As.map (ev_rv b base)).toArray, ?_⟩) kk
  have hts := C.2.2.2.2.2.1
  have cb : CallB R s args mi.1.cls ix ce.1 (mi_C ce) (mi_L ce) (mi_R ce) (ev_ws ce) (ev_rm ce kc1 ks1) kc1 ks1 n := callB_of n hts (ev_ws_good k2) rfl rfl rfl (hts _ k3) (hts _ k1) ⟨k4, k5, k6⟩ (ev_room_of hR C.2.2.2.2.2.2.2.2.1 C.2.2.2.2.2.2.2.2.2.1)
  refine va_runS (Ts := gwl) (own := mi.1.cls) ⟨C.1, C.2.1, C.2.2.1, C.2.2.2.2.1, hts⟩ (hM l b base) ⟨cb, hts _ hst⟩ ⟨ev_Pc_blind b base As G h, ev_Pc_at hS C.2.2.2.2.2.2.2.2.2.2.1 As⟩ rfl (by rw [List.length_map]; exact hlen) hls ?_ (lv_room (by rw [ev_sum]; exact hw)) (ev_dec C hd hn) ⟨hcc, hss⟩
  show (As.reverse ++ [] ++ st).map (ev_rv b base) = _
  rw [List.append_nil, List.map_append, List.map_reverse]
theorem ev_invSN0 {As : List Value} (hd : ev_at mi pc = some (.invokestatic ix, nx, tg)) (hn : nx = pc + 3) (hk : ev_ln mi.1.cls ix ce n) (hst : Cond.static ce.1 ∈ gwl) (hlen : As.length = n) (hR : ev_room mi ce) (hw : (st.map fun v => v.category).sum ≤ 8) (hM : EvM ce As G h kc1 ks1 Q1)
    (kk : ∀ v G' h', Q1 v G' h' → ev_rt (mi_R ce) v → EvQ mi nx lo (v.toList ++ st) G' h' kc ks Q) : EvQ mi pc lo (As.reverse ++ [] ++ st) G h (kc1 + kc) (ks1 + ks) Q := by
  obtain ⟨⟨host, k1⟩, k2, k3, k4, k5, k6⟩ := hk
  refine ev_call (ce := ce) (Q1 := Q1) (recv := []) hn (fun p l e R s m args below meth c b base ls H locs cells slots C hls hS hcc hss => ⟨(As.map (ev_rv b base)).toArray, ?_⟩) kk
  have hts := C.2.2.2.2.2.1
  have hN := C.2.2.2.2.2.2.2.2.2.2.1
  have cb : va_CN R s args mi.1.cls ix ce.1 host (mi_C ce) (mi_L ce) (mi_R ce) (ev_ws ce) (ev_rm ce kc1 ks1) kc1 ks1 n := va_cnB n hts (ev_ws_good k2) rfl rfl rfl (hN.1 _ k1) (hts _ k3) ⟨k4, k5, k6⟩ (ev_room_of hR C.2.2.2.2.2.2.2.2.1 C.2.2.2.2.2.2.2.2.2.1)
  refine va_runSN (Ts := gwl) (own := mi.1.cls) ⟨C.1, C.2.1, C.2.2.1, C.2.2.2.2.1, hts⟩ (hM l b base) ⟨cb, hts _ hst, trivial⟩ ⟨ev_Pc_blind b base As G h, ev_Pc_at hS hN As⟩ rfl (by rw [List.length_map]; exact hlen) hls ?_ (lv_room (by rw [ev_sum]; exact hw)) (ev_dec C hd hn) ⟨hcc, hss⟩
  show (As.reverse ++ [] ++ st).map (ev_rv b base) = _
  rw [List.append_nil, List.map_append, List.map_reverse]
/-- a receiver of ours -/
theorem ev_recv {b base a c : Nat} {s : State} {H : Heap} (hS : ev_S b base G h s H) (ha : 0 < a) (hz : ev_sh G a = some (.inl c)) {C : String} (hc : (vwCl[c]?).map (fun q => q.1) = some C) : ∃ cell : Cell, H[ev_ad b base a]? = some cell ∧ cell.vm.isStatics = false ∧ s.vm.findClass C = some cell.cls := by
  obtain ⟨q, cC, iS, g1, ⟨-, gfc, -⟩, cell, q1, q2, q3, -⟩ := hS.obj ha hz
  rw [g1] at hc
  have hc : q.1 = C := Option.some.inj hc
  rw [ev_ad_pos ha]
  exact ⟨cell, q1, by rw [q3]; rfl, by rw [← hc, q2]; exact gfc⟩
theorem ev_invV0 {As : List Value} {a c : Nat} (hd : ev_at mi pc = some (.invokevirtual ix, nx, tg)) (hn : nx = pc + 3) (hk : ev_lk mi.1.cls ix ce n) (hst : Cond.instanceMethod ce.1 ∈ gwl ∧ Cond.selects ce.1.cls ce.1 ce.1 ∈ gwl) (ha : Nat.blt 0 a = true) (hz : ev_sh G a = some (.inl c)) (hc : (vwCl[c]?).map (fun q => q.1) = some ce.1.cls) (hlen : As.length = n) (hR : ev_room mi ce) (hw : (st.map fun v => v.category).sum ≤ 8) (hM : EvM ce (.ref a :: As) G h kc1 ks1 Q1)
    (kk : ∀ v G' h', Q1 v G' h' → ev_rt (mi_R ce) v → EvQ mi nx lo (v.toList ++ st) G' h' kc ks Q) : EvQ mi pc lo (As.reverse ++ [.ref a] ++ st) G h (kc1 + kc) (ks1 + ks) Q := by
  obtain ⟨k1, k2, k3, k4, k5, k6⟩ := hk
  refine ev_call (ce := ce) (Q1 := Q1) (recv := [.ref a]) hn (fun p l e R s m args below meth c0 b base ls H locs cells slots C hls hS hcc hss => ⟨((.ref a :: As).map (ev_rv b base)).toArray, ?_⟩) kk
  have hts := C.2.2.2.2.2.1
  have cb : CallB R s args mi.1.cls ix ce.1 (mi_C ce) (mi_L ce) (mi_R ce) (ev_ws ce) (ev_rm ce kc1 ks1) kc1 ks1 n := callB_of n hts (ev_ws_good k2) rfl rfl rfl (hts _ k3) (hts _ k1) ⟨k4, k5, k6⟩ (ev_room_of hR C.2.2.2.2.2.2.2.2.1 C.2.2.2.2.2.2.2.2.2.1)
  refine va_runV (Ts := gwl) (own := mi.1.cls) (C := ce.1.cls) (b := ev_ad b base a) (As := As.map (ev_rv b base)) ⟨C.1, C.2.1, C.2.2.1, C.2.2.2.2.1, hts⟩ (hM l b base) ⟨cb, hts _ hst.1, hts _ hst.2⟩ ⟨ev_Pc_blind b base _ G h, ev_recv hS (Nat.le_of_ble_eq_true ha) hz hc, ev_Pc_at hS C.2.2.2.2.2.2.2.2.2.2.1 (.ref a :: As)⟩ rfl (by rw [List.length_map]; exact hlen) hls ?_ (lv_room (by rw [ev_sum]; exact hw)) (ev_dec C hd hn) ⟨hcc, hss⟩
  show (As.reverse ++ [Value.ref a] ++ st).map (ev_rv b base) = _
  rw [List.map_append, List.map_append, List.map_reverse, List.append_assoc]
  rfl
theorem ev_invI0 {As : List Value} {a : Nat} (hd : ev_at mi pc = some (.invokespecial ix, nx, tg)) (hn : nx = pc + 3) (hk : ev_lk mi.1.cls ix ce n) (hst : Cond.instanceMethod ce.1 ∈ gwl ∧ ce.1.name = "<init>" ∧ mi_R ce = none) (hlen : As.length = n) (hR : ev_room mi ce) (hw : (st.map fun v => v.category).sum ≤ 8) (hM : EvM ce (.ref a :: As) G h kc1 ks1 Q1)
    (kk : ∀ v G' h', Q1 v G' h' → ev_rt (mi_R ce) v → EvQ mi nx lo (v.toList ++ st) G' h' kc ks Q) : EvQ mi pc lo (As.reverse ++ [.ref a] ++ st) G h (kc1 + kc) (ks1 + ks) Q := by
  obtain ⟨k1, k2, k3, k4, k5, k6⟩ := hk
  refine ev_call (ce := ce) (Q1 := Q1) (recv := [.ref a]) hn (fun p l e R s m args below meth c0 b base ls H locs cells slots C hls hS hcc hss => ⟨((.ref a :: As).map (ev_rv b base)).toArray, ?_⟩) kk
  have hts := C.2.2.2.2.2.1
  have cb : CallB R s args mi.1.cls ix ce.1 (mi_C ce) (mi_L ce) (mi_R ce) (ev_ws ce) (ev_rm ce kc1 ks1) kc1 ks1 n := callB_of n hts (ev_ws_good k2) rfl rfl rfl (hts _ k3) (hts _ k1) ⟨k4, k5, k6⟩ (ev_room_of hR C.2.2.2.2.2.2.2.2.1 C.2.2.2.2.2.2.2.2.2.1)
  rw [hst.2.2] at cb
  refine va_runI (Ts := gwl) (own := mi.1.cls) (b := ev_ad b base a) (As := As.map (ev_rv b base)) ⟨C.1, C.2.1, C.2.2.1, C.2.2.2.2.1, hts⟩ (hM l b base) ⟨cb, hst.2.1, hts _ hst.1⟩ ⟨ev_Pc_blind b base _ G h, ev_Pc_at hS C.2.2.2.2.2.2.2.2.2.2.1 (.ref a :: As)⟩ rfl (by rw [List.length_map]; exact hlen) hls ?_ (lv_room (by rw [ev_sum]; exact hw)) (ev_dec C hd hn) ⟨hcc, hss⟩
  show (As.reverse ++ [Value.ref a] ++ st).map (ev_rv b base) = _
  rw [List.map_append, List.map_append, List.map_reverse, List.append_assoc]
  rfl
theorem ev_invIN0 {As : List Value} {a : Nat} (hd : ev_at mi pc = some (.invokespecial ix, nx, tg)) (hn : nx = pc + 3) (hk : ev_ln mi.1.cls ix ce n) (hst : Cond.instanceMethod ce.1 ∈ gwl ∧ ce.1.name = "<init>" ∧ mi_R ce = none) (hlen : As.length = n) (hR : ev_room mi ce) (hw : (st.map fun v => v.category).sum ≤ 8) (hM : EvM ce (.ref a :: As) G h kc1 ks1 Q1)
    (kk : ∀ v G' h', Q1 v G' h' → ev_rt (mi_R ce) v → EvQ mi nx lo (v.toList ++ st) G' h' kc ks Q) : EvQ mi pc lo (As.reverse ++ [.ref a] ++ st) G h (kc1 + kc) (ks1 + ks) Q := by
  obtain ⟨⟨host, k1⟩, k2, k3, k4, k5, k6⟩ := hk
  refine ev_call (ce := ce) (Q1 := Q1) (recv := [.ref a]) hn (fun p l e R s m args below meth c0 b base ls H locs cells slots C hls hS hcc hss => ⟨((.ref a :: As).map (ev_rv b base)).toArray, ?_⟩) kk
  have hts := C.2.2.2.2.2.1
  have hN := C.2.2.2.2.2.2.2.2.2.2.1
  have cb : va_CN R s args mi.1.cls ix ce.1 host (mi_C ce) (mi_L ce) (mi_R ce) (ev_ws ce) (ev_rm ce kc1 ks1) kc1 ks1 n := va_cnB n hts (ev_ws_good k2) rfl rfl rfl (hN.1 _ k1) (hts _ k3) ⟨k4, k5, k6⟩ (ev_room_of hR C.2.2.2.2.2.2.2.2.1 C.2.2.2.2.2.2.2.2.2.1)
  rw [hst.2.2] at cb
  refine va_runIN (Ts := gwl) (own := mi.1.cls) (b := ev_ad b base a) (As := As.map (ev_rv b base)) ⟨C.1, C.2.1, C.2.2.1, C.2.2.2.2.1, hts⟩ (hM l b base) ⟨cb, hst.2.1, hts _ hst.1⟩ ⟨ev_Pc_blind b base _ G h, ev_Pc_at hS hN (.ref a :: As)⟩ rfl (by rw [List.length_map]; exact hlen) hls ?_ (lv_room (by rw [ev_sum]; exact hw)) (ev_dec C hd hn) ⟨hcc, hss⟩
  show (As.reverse ++ [Value.ref a] ++ st).map (ev_rv b base) = _
  rw [List.map_append, List.map_append, List.map_reverse, List.append_assoc]
  rfl
end EVC

