/-! EvQ: from this frame the method comes to its return, with Q of the answer and the heap; at most kc cells of ks slots are made -/
def ev_C (mi : MI) (p : Program) (R : Room) (s : State) (m : MethodId) (args : Array Value) (meth : Method) (c : Code) : Prop :=
  p.tables.exec = Jvm.exec ∧ c.code = mi_C mi ∧ c.maxLocals = mi_L mi ∧ meth.sig.returnType = mi_R mi ∧ s.vm.findClass mi.1.cls = some m.cls ∧ (∀ w ∈ gwl, w.before args s = true) ∧ meth.locks = false ∧ (mi.1.name = "<init>" → meth.name = "<init>") ∧ mi_F mi ≤ R.frames ∧ mi_S mi ≤ R.locals ∧ ev_N s ∧ ev_ok mi
def ev_rt (ret : Option FieldType) (v : Option Value) : Prop := match ret, v with
  | none, none => True
  | some ty, some (.int x) => narrow ty (.int x) = .int x
  | _, _ => False
def ev_ro (v : Option Value) : Instr := match v with
  | none => .return_
  | some _ => .ireturn
def ev_B (base : Nat) (locs : List Loc) : Prop := ∀ q ∈ locs, base < q.base
theorem ev_B.put {base : Nat} {locs : List Loc} {a k : Nat} (h : ev_B base locs) (ha : base < a) : ev_B base (locs ++ [⟨a, k⟩]) := fun q hq => by
  rcases List.mem_append.mp hq with h1 | h1
  · exact h q h1
  · rw [List.mem_singleton.mp h1]; exact ha
theorem ev_B.app {base : Nat} {locs L : List Loc} (h : ev_B base locs) (h2 : ∀ q ∈ L, base < q.base) : ev_B base (locs ++ L) := fun q hq => by
  rcases List.mem_append.mp hq with h1 | h1
  · exact h q h1
  · exact h2 q h1
abbrev Pst : Type := Option Value → Geo → Hp → Prop
def EvQ (mi : MI) (pc : Nat) (lo : List (Option Value)) (st : List Value) (G : Geo) (h : Hp) (kc ks : Nat) (Q : Pst) : Prop :=
  ∀ (p : Program) (l : Launch) (e : Env) (R : Room) (s : State) (m : MethodId) (args : Array Value) (below : List Frame) (meth : Method) (c : Code) (b base : Nat) (ls : Array Slot) (H : Heap) (locs : List Loc) (cells slots : Nat) (Qf : State → Prop),
    ev_C mi p R s m args meth c → ev_L b base (mi_L mi) lo ls → ev_S b base G h s H → ev_B base locs → cells + kc ≤ R.cells → slots + ks ≤ R.slots →
    (∀ (v : Option Value) (G' : Geo) (h' : Hp) (pc' nx tg : Nat) (ls' : Array Slot) (H' : Heap) (locs' : List Loc), Q v G' h' → ev_rt (mi_R mi) v → ev_S b base G' h' s H' → ev_B base locs' → ev_at mi pc' = some (ev_ro v, nx, tg) → nx = pc' + 1 → W p l e R s m args below meth c H' locs' (cells + kc) (slots + ks) Qf (F0 m pc' ls' ((v.map (ev_rv b base)).toList))) →
    W p l e R s m args below meth c H locs cells slots Qf (F0 m pc ls (st.map (ev_rv b base)))
theorem EvQ.mono {mi : MI} {pc : Nat} {lo : List (Option Value)} {st : List Value} {G : Geo} {h : Hp} {kc ks kc' ks' : Nat} {Q Q' : Pst} (k : EvQ mi pc lo st G h kc ks Q) (h1 : kc ≤ kc') (h2 : ks ≤ ks') (hq : ∀ v G' h', Q v G' h' → Q' v G' h') : EvQ mi pc lo st G h kc' ks' Q' := by
  intro p l e R s m args below meth c b base ls H locs cells slots Qf C hL hS hB hc hs hr
  exact k p l e R s m args below meth c b base ls H locs cells slots Qf C hL hS hB (by omega) (by omega)
    (fun v G' h' pc' nx tg ls' H' locs' q1 q2 q3 q4 q5 q6 => W.widen (by omega) (by omega) (hr v G' h' pc' nx tg ls' H' locs' (hq _ _ _ q1) q2 q3 q4 q5 q6))
/-- a row that neither branches nor touches heap or locals -/
theorem ev_up {mi : MI} {pc pc' : Nat} {lo : List (Option Value)} {st st' : List Value} {G : Geo} {h : Hp} {kc ks : Nat} {Q : Pst}
    (hr : ∀ (p : Program) (l : Launch) (e : Env) (R : Room) (s : State) (m : MethodId) (args : Array Value) (below : List Frame) (meth : Method) (c : Code) (b base : Nat) (ls : Array Slot) (H : Heap) (locs : List Loc) (cells slots : Nat) (Qf : State → Prop), ev_C mi p R s m args meth c → ev_L b base (mi_L mi) lo ls → ev_S b base G h s H → W p l e R s m args below meth c H locs cells slots Qf (F0 m pc' ls (st'.map (ev_rv b base))) → W p l e R s m args below meth c H locs cells slots Qf (F0 m pc ls (st.map (ev_rv b base))))
    (k : EvQ mi pc' lo st' G h kc ks Q) : EvQ mi pc lo st G h kc ks Q := by
  intro p l e R s m args below meth c b base ls H locs cells slots Qf C hL hS hB hc hs hret
  exact hr p l e R s m args below meth c b base ls H locs cells slots Qf C hL hS (k p l e R s m args below meth c b base ls H locs cells slots Qf C hL hS hB hc hs hret)
theorem ev_dec {mi : MI} {p : Program} {R : Room} {s : State} {m : MethodId} {args : Array Value} {meth : Method} {c : Code} (C : ev_C mi p R s m args meth c) {pc nx tg n : Nat} {i : Instr} (h : ev_at mi pc = some (i, nx, tg)) (hn : nx = pc + n) : decode (mi_C mi) pc = .ok (i, n) := by
  have h1 := (C.2.2.2.2.2.2.2.2.2.2.2 pc i nx tg h).1
  rw [hn, Nat.add_sub_cancel_left] at h1
  exact h1
theorem ev_tgt {mi : MI} {p : Program} {R : Room} {s : State} {m : MethodId} {args : Array Value} {meth : Method} {c : Code} (C : ev_C mi p R s m args meth c) {pc nx tg : Nat} {i : Instr} (h : ev_at mi pc = some (i, nx, tg)) : ev_off pc tg i = true := (C.2.2.2.2.2.2.2.2.2.2.2 pc i nx tg h).2.2
section EVR
variable {mi : MI} {pc nx tg : Nat} {lo : List (Option Value)} {st : List Value} {G : Geo} {h : Hp} {kc ks : Nat} {Q : Pst}
theorem ev_iconst {n : Int} {v : Int32} (hd : ev_at mi pc = some (.iconst n, nx, tg)) (hn : nx = pc + 1) (hv : Int32.ofInt n = v) (k : EvQ mi nx lo (.int v :: st) G h kc ks Q) : EvQ mi pc lo st G h kc ks Q := by
  subst hn
  exact ev_up (fun p l e R s m args below meth c b base ls H locs cells slots Qf C hL hS w => lv_iconst C.1 C.2.1 (ev_dec C hd rfl) hv w) k
theorem ev_bipush {n : Int} {v : Int32} (hd : ev_at mi pc = some (.bipush n, nx, tg)) (hn : nx = pc + 2) (hv : (Int8.ofInt n).toInt32 = v) (k : EvQ mi nx lo (.int v :: st) G h kc ks Q) : EvQ mi pc lo st G h kc ks Q := by
  subst hn
  exact ev_up (fun p l e R s m args below meth c b base ls H locs cells slots Qf C hL hS w => lv_bipush C.1 C.2.1 (ev_dec C hd rfl) hv w) k
theorem ev_sipush {n : Int} {v : Int32} (hd : ev_at mi pc = some (.sipush n, nx, tg)) (hn : nx = pc + 3) (hv : (Int16.ofInt n).toInt32 = v) (k : EvQ mi nx lo (.int v :: st) G h kc ks Q) : EvQ mi pc lo st G h kc ks Q := by
  subst hn
  exact ev_up (fun p l e R s m args below meth c b base ls H locs cells slots Qf C hL hS w => lv_sipush C.1 C.2.1 (ev_dec C hd rfl) hv w) k
theorem ev_lconst {n : Fin 2} {v : Int64} (hd : ev_at mi pc = some (.lconst n, nx, tg)) (hn : nx = pc + 1) (hv : Int64.ofNat (n : Nat) = v) (k : EvQ mi nx lo (.long v :: st) G h kc ks Q) : EvQ mi pc lo st G h kc ks Q := by
  subst hn
  exact ev_up (fun p l e R s m args below meth c b base ls H locs cells slots Qf C hL hS w => lv_lconst C.1 C.2.1 (ev_dec C hd rfl) hv w) k
theorem ev_ldc {ix : Nat} {v : Int32} (hd : ev_at mi pc = some (.ldc ix, nx, tg)) (hn : nx = pc + 2) (hw : Cond.constant mi.1.cls ix v ∈ gwl) (k : EvQ mi nx lo (.int v :: st) G h kc ks Q) : EvQ mi pc lo st G h kc ks Q := by
  subst hn
  exact ev_up (fun p l e R s m args below meth c b base ls H locs cells slots Qf C hL hS w => lv_ldc C.1 C.2.1 C.2.2.2.2.1 (C.2.2.2.2.2.1 _ hw) (ev_dec C hd rfl) w) k
theorem ev_ldcw {ix : Nat} {v : Int32} (hd : ev_at mi pc = some (.ldc_w ix, nx, tg)) (hn : nx = pc + 3) (hw : Cond.constant mi.1.cls ix v ∈ gwl) (k : EvQ mi nx lo (.int v :: st) G h kc ks Q) : EvQ mi pc lo st G h kc ks Q := by
  subst hn
  exact ev_up (fun p l e R s m args below meth c b base ls H locs cells slots Qf C hL hS w => lv_ldcw C.1 C.2.1 C.2.2.2.2.1 (C.2.2.2.2.2.1 _ hw) (ev_dec C hd rfl) w) k
theorem ev_ldc2 {ix : Nat} {v : Int64} (hd : ev_at mi pc = some (.ldc2_w ix, nx, tg)) (hn : nx = pc + 3) (hw : Cond.constantLong mi.1.cls ix v ∈ gwl) (k : EvQ mi nx lo (.long v :: st) G h kc ks Q) : EvQ mi pc lo st G h kc ks Q := by
  subst hn
  exact ev_up (fun p l e R s m args below meth c b base ls H locs cells slots Qf C hL hS w => lv_ldc2 C.1 C.2.1 C.2.2.2.2.1 (C.2.2.2.2.2.1 _ hw) (ev_dec C hd rfl) w) k
theorem ev_iload_n {n : Fin 4} {x : Int32} (hd : ev_at mi pc = some (.iload_n n, nx, tg)) (hn : nx = pc + 1) (hl : lo[(n : Nat)]? = some (some (.int x))) (k : EvQ mi nx lo (.int x :: st) G h kc ks Q) : EvQ mi pc lo st G h kc ks Q := by
  subst hn
  exact ev_up (fun p l e R s m args below meth c b base ls H locs cells slots Qf C hL hS w => lv_iload_n C.1 C.2.1 (ev_dec C hd rfl) rfl (hL.get hl) w) k
theorem ev_iload {n : Nat} {x : Int32} (hd : ev_at mi pc = some (.iload n, nx, tg)) (hn : nx = pc + 2) (hl : lo[n]? = some (some (.int x))) (k : EvQ mi nx lo (.int x :: st) G h kc ks Q) : EvQ mi pc lo st G h kc ks Q := by
  subst hn
  exact ev_up (fun p l e R s m args below meth c b base ls H locs cells slots Qf C hL hS w => lv_iload C.1 C.2.1 (ev_dec C hd rfl) (hL.get hl) w) k
theorem ev_lload_n {n : Fin 4} {x : Int64} (hd : ev_at mi pc = some (.lload_n n, nx, tg)) (hn : nx = pc + 1) (hl : lo[(n : Nat)]? = some (some (.long x))) (k : EvQ mi nx lo (.long x :: st) G h kc ks Q) : EvQ mi pc lo st G h kc ks Q := by
  subst hn
  exact ev_up (fun p l e R s m args below meth c b base ls H locs cells slots Qf C hL hS w => lv_lload_n C.1 C.2.1 (ev_dec C hd rfl) rfl (hL.get hl) w) k
theorem ev_lload {n : Nat} {x : Int64} (hd : ev_at mi pc = some (.lload n, nx, tg)) (hn : nx = pc + 2) (hl : lo[n]? = some (some (.long x))) (k : EvQ mi nx lo (.long x :: st) G h kc ks Q) : EvQ mi pc lo st G h kc ks Q := by
  subst hn
  exact ev_up (fun p l e R s m args below meth c b base ls H locs cells slots Qf C hL hS w => lv_lload C.1 C.2.1 (ev_dec C hd rfl) (hL.get hl) w) k
theorem ev_aload_n {n : Fin 4} {x : Nat} (hd : ev_at mi pc = some (.aload_n n, nx, tg)) (hn : nx = pc + 1) (hl : lo[(n : Nat)]? = some (some (.ref x))) (k : EvQ mi nx lo (.ref x :: st) G h kc ks Q) : EvQ mi pc lo st G h kc ks Q := by
  subst hn
  exact ev_up (fun p l e R s m args below meth c b base ls H locs cells slots Qf C hL hS w => lv_aload_n C.1 C.2.1 (ev_dec C hd rfl) rfl (hL.get hl) w) k
theorem ev_istore_n {n : Fin 4} {x : Int32} (hd : ev_at mi pc = some (.istore_n n, nx, tg)) (hn : nx = pc + 1) (hb : Nat.blt (n : Nat) (mi_L mi) = true) (hc : ev_c1 lo (n : Nat) = true) (k : EvQ mi nx (lo.set (n : Nat) (some (.int x))) st G h kc ks Q) : EvQ mi pc lo (.int x :: st) G h kc ks Q := by
  subst hn
  intro p l e R s m args below meth c b base ls H locs cells slots Qf C hL hS hB hcc hss hret
  obtain ⟨l0, hl1, hl2⟩ := hL
  exact lv_istore_n C.1 C.2.1 (ev_dec C hd rfl) rfl hl1 (Nat.le_of_ble_eq_true hb) rfl (fun ls' hl' => k p l e R s m args below meth c b base ls' H locs cells slots Qf C (ev_L.put1 (v := .int x) hl2 hc hl') hS hB hcc hss hret)
theorem ev_istore {n : Nat} {x : Int32} (hd : ev_at mi pc = some (.istore n, nx, tg)) (hn : nx = pc + 2) (hb : Nat.blt n (mi_L mi) = true) (hc : ev_c1 lo n = true) (k : EvQ mi nx (lo.set n (some (.int x))) st G h kc ks Q) : EvQ mi pc lo (.int x :: st) G h kc ks Q := by
  subst hn
  intro p l e R s m args below meth c b base ls H locs cells slots Qf C hL hS hB hcc hss hret
  obtain ⟨l0, hl1, hl2⟩ := hL
  exact lv_istore C.1 C.2.1 (ev_dec C hd rfl) hl1 (Nat.le_of_ble_eq_true hb) rfl (fun ls' hl' => k p l e R s m args below meth c b base ls' H locs cells slots Qf C (ev_L.put1 (v := .int x) hl2 hc hl') hS hB hcc hss hret)
theorem ev_astore_n {n : Fin 4} {x : Nat} (hd : ev_at mi pc = some (.astore_n n, nx, tg)) (hn : nx = pc + 1) (hb : Nat.blt (n : Nat) (mi_L mi) = true) (hc : ev_c1 lo (n : Nat) = true) (k : EvQ mi nx (lo.set (n : Nat) (some (.ref x))) st G h kc ks Q) : EvQ mi pc lo (.ref x :: st) G h kc ks Q := by
  subst hn
  intro p l e R s m args below meth c b base ls H locs cells slots Qf C hL hS hB hcc hss hret
  obtain ⟨l0, hl1, hl2⟩ := hL
  exact lv_astore_n C.1 C.2.1 (ev_dec C hd rfl) rfl hl1 (Nat.le_of_ble_eq_true hb) rfl (fun ls' hl' => k p l e R s m args below meth c b base ls' H locs cells slots Qf C (ev_L.put1 (v := .ref x) hl2 hc hl') hS hB hcc hss hret)
theorem ev_lstore {n : Nat} {x : Int64} (hd : ev_at mi pc = some (.lstore n, nx, tg)) (hn : nx = pc + 2) (hb : Nat.blt (n + 1) (mi_L mi) = true) (hc : ev_c1 lo n = true) (k : EvQ mi nx ((lo.set n (some (.long x))).set (n + 1) none) st G h kc ks Q) : EvQ mi pc lo (.long x :: st) G h kc ks Q := by
  subst hn
  intro p l e R s m args below meth c b base ls H locs cells slots Qf C hL hS hB hcc hss hret
  obtain ⟨l0, hl1, hl2⟩ := hL
  exact lv_lstore C.1 C.2.1 (ev_dec C hd rfl) hl1 (Nat.le_of_ble_eq_true hb) rfl (fun ls' hl' => k p l e R s m args below meth c b base ls' H locs cells slots Qf C (ev_L.put2 (v := .long x) hl2 hc hl') hS hB hcc hss hret)
theorem ev_iinc {n : Nat} {d : Int} {x y : Int32} (hd : ev_at mi pc = some (.iinc n d, nx, tg)) (hn : nx = pc + 3) (hl : lo[n]? = some (some (.int x))) (hy : Int32.ofInt d = y) (hb : Nat.blt n (mi_L mi) = true) (hc : ev_c1 lo n = true) (k : EvQ mi nx (lo.set n (some (.int (x + y)))) st G h kc ks Q) : EvQ mi pc lo st G h kc ks Q := by
  subst hn
  subst hy
  intro p l e R s m args below meth c b base ls H locs cells slots Qf C hL hS hB hcc hss hret
  obtain ⟨l0, hl1, hl2⟩ := hL
  obtain ⟨j, hj⟩ := List.getElem?_of_mem (hl2 n _ hl)
  exact lv_iinc C.1 C.2.1 (ev_dec C hd rfl) hl1 hj rfl (Nat.le_of_ble_eq_true hb) rfl (fun ls' hl' => k p l e R s m args below meth c b base ls' H locs cells slots Qf C (ev_L.put1 (v := .int (x + Int32.ofInt d)) hl2 hc hl') hS hB hcc hss hret)
theorem ev_null (hd : ev_at mi pc = some (.aconst_null, nx, tg)) (hn : nx = pc + 1) (k : EvQ mi nx lo (.null :: st) G h kc ks Q) : EvQ mi pc lo st G h kc ks Q := by
  subst hn
  exact ev_up (fun p l e R s m args below meth c b base ls H locs cells slots Qf C hL hS w => lv_null C.1 C.2.1 (ev_dec C hd rfl) w) k
theorem ev_dup {v : Value} (hd : ev_at mi pc = some (.dup, nx, tg)) (hn : nx = pc + 1) (hc : Nat.beq v.category 1 = true) (k : EvQ mi nx lo (v :: v :: st) G h kc ks Q) : EvQ mi pc lo (v :: st) G h kc ks Q := by
  subst hn
  exact ev_up (fun p l e R s m args below meth c b base ls H locs cells slots Qf C hL hS w => lv_dup C.1 C.2.1 (ev_dec C hd rfl) ((ev_rv_cat b base v).trans (Nat.eq_of_beq_eq_true hc)) w) k
theorem ev_pop {v : Value} (hd : ev_at mi pc = some (.pop, nx, tg)) (hn : nx = pc + 1) (hc : Nat.beq v.category 1 = true) (k : EvQ mi nx lo st G h kc ks Q) : EvQ mi pc lo (v :: st) G h kc ks Q := by
  subst hn
  exact ev_up (fun p l e R s m args below meth c b base ls H locs cells slots Qf C hL hS w => lv_pop C.1 C.2.1 (ev_dec C hd rfl) ((ev_rv_cat b base v).trans (Nat.eq_of_beq_eq_true hc)) w) k
theorem ev_dup2 {v u : Value} (hd : ev_at mi pc = some (.dup2, nx, tg)) (hn : nx = pc + 1) (hc : Nat.beq v.category 1 = true) (hu : Nat.beq u.category 1 = true) (k : EvQ mi nx lo (v :: u :: v :: u :: st) G h kc ks Q) : EvQ mi pc lo (v :: u :: st) G h kc ks Q := by
  subst hn
  exact ev_up (fun p l e R s m args below meth c b base ls H locs cells slots Qf C hL hS w => lv_dup2_11 C.1 C.2.1 (ev_dec C hd rfl) ((ev_rv_cat b base v).trans (Nat.eq_of_beq_eq_true hc)) ((ev_rv_cat b base u).trans (Nat.eq_of_beq_eq_true hu)) w) k
theorem ev_iadd {x : Int32} {y : Int32} (hd : ev_at mi pc = some (.iadd, nx, tg)) (hn : nx = pc + 1) (k : EvQ mi nx lo (.int (x + y) :: st) G h kc ks Q) : EvQ mi pc lo (.int y :: .int x :: st) G h kc ks Q := by
  subst hn
  exact ev_up (fun p l e R s m args below meth c b base ls H locs cells slots Qf C hL hS w => lv_iadd C.1 C.2.1 (ev_dec C hd rfl) w) k
theorem ev_isub {x : Int32} {y : Int32} (hd : ev_at mi pc = some (.isub, nx, tg)) (hn : nx = pc + 1) (k : EvQ mi nx lo (.int (x - y) :: st) G h kc ks Q) : EvQ mi pc lo (.int y :: .int x :: st) G h kc ks Q := by
  subst hn
  exact ev_up (fun p l e R s m args below meth c b base ls H locs cells slots Qf C hL hS w => lv_isub C.1 C.2.1 (ev_dec C hd rfl) w) k
theorem ev_imul {x : Int32} {y : Int32} (hd : ev_at mi pc = some (.imul, nx, tg)) (hn : nx = pc + 1) (k : EvQ mi nx lo (.int (x * y) :: st) G h kc ks Q) : EvQ mi pc lo (.int y :: .int x :: st) G h kc ks Q := by
  subst hn
  exact ev_up (fun p l e R s m args below meth c b base ls H locs cells slots Qf C hL hS w => lv_imul C.1 C.2.1 (ev_dec C hd rfl) w) k
theorem ev_iand {x : Int32} {y : Int32} (hd : ev_at mi pc = some (.iand, nx, tg)) (hn : nx = pc + 1) (k : EvQ mi nx lo (.int (x &&& y) :: st) G h kc ks Q) : EvQ mi pc lo (.int y :: .int x :: st) G h kc ks Q := by
  subst hn
  exact ev_up (fun p l e R s m args below meth c b base ls H locs cells slots Qf C hL hS w => lv_iand C.1 C.2.1 (ev_dec C hd rfl) w) k
theorem ev_ior {x : Int32} {y : Int32} (hd : ev_at mi pc = some (.ior, nx, tg)) (hn : nx = pc + 1) (k : EvQ mi nx lo (.int (x ||| y) :: st) G h kc ks Q) : EvQ mi pc lo (.int y :: .int x :: st) G h kc ks Q := by
  subst hn
  exact ev_up (fun p l e R s m args below meth c b base ls H locs cells slots Qf C hL hS w => lv_ior C.1 C.2.1 (ev_dec C hd rfl) w) k
theorem ev_ixor {x : Int32} {y : Int32} (hd : ev_at mi pc = some (.ixor, nx, tg)) (hn : nx = pc + 1) (k : EvQ mi nx lo (.int (x ^^^ y) :: st) G h kc ks Q) : EvQ mi pc lo (.int y :: .int x :: st) G h kc ks Q := by
  subst hn
  exact ev_up (fun p l e R s m args below meth c b base ls H locs cells slots Qf C hL hS w => lv_ixor C.1 C.2.1 (ev_dec C hd rfl) w) k
theorem ev_idiv {x : Int32} {y : Int32} (hd : ev_at mi pc = some (.idiv, nx, tg)) (hn : nx = pc + 1) (hne : ¬ y = 0) (k : EvQ mi nx lo (.int (x / y) :: st) G h kc ks Q) : EvQ mi pc lo (.int y :: .int x :: st) G h kc ks Q := by
  subst hn
  exact ev_up (fun p l e R s m args below meth c b base ls H locs cells slots Qf C hL hS w => lv_idiv C.1 C.2.1 (ev_dec C hd rfl) hne w) k
theorem ev_irem {x : Int32} {y : Int32} (hd : ev_at mi pc = some (.irem, nx, tg)) (hn : nx = pc + 1) (hne : ¬ y = 0) (k : EvQ mi nx lo (.int (x - x / y * y) :: st) G h kc ks Q) : EvQ mi pc lo (.int y :: .int x :: st) G h kc ks Q := by
  subst hn
  exact ev_up (fun p l e R s m args below meth c b base ls H locs cells slots Qf C hL hS w => lv_irem C.1 C.2.1 (ev_dec C hd rfl) hne w) k
theorem ev_ladd {x : Int64} {y : Int64} (hd : ev_at mi pc = some (.ladd, nx, tg)) (hn : nx = pc + 1) (k : EvQ mi nx lo (.long (x + y) :: st) G h kc ks Q) : EvQ mi pc lo (.long y :: .long x :: st) G h kc ks Q := by
  subst hn
  exact ev_up (fun p l e R s m args below meth c b base ls H locs cells slots Qf C hL hS w => lv_ladd C.1 C.2.1 (ev_dec C hd rfl) w) k
theorem ev_lsub {x : Int64} {y : Int64} (hd : ev_at mi pc = some (.lsub, nx, tg)) (hn : nx = pc + 1) (k : EvQ mi nx lo (.long (x - y) :: st) G h kc ks Q) : EvQ mi pc lo (.long y :: .long x :: st) G h kc ks Q := by
  subst hn
  exact ev_up (fun p l e R s m args below meth c b base ls H locs cells slots Qf C hL hS w => lv_lsub C.1 C.2.1 (ev_dec C hd rfl) w) k
theorem ev_land {x : Int64} {y : Int64} (hd : ev_at mi pc = some (.land, nx, tg)) (hn : nx = pc + 1) (k : EvQ mi nx lo (.long (x &&& y) :: st) G h kc ks Q) : EvQ mi pc lo (.long y :: .long x :: st) G h kc ks Q := by
  subst hn
  exact ev_up (fun p l e R s m args below meth c b base ls H locs cells slots Qf C hL hS w => lv_land C.1 C.2.1 (ev_dec C hd rfl) w) k
theorem ev_lor {x : Int64} {y : Int64} (hd : ev_at mi pc = some (.lor, nx, tg)) (hn : nx = pc + 1) (k : EvQ mi nx lo (.long (x ||| y) :: st) G h kc ks Q) : EvQ mi pc lo (.long y :: .long x :: st) G h kc ks Q := by
  subst hn
  exact ev_up (fun p l e R s m args below meth c b base ls H locs cells slots Qf C hL hS w => lv_lor C.1 C.2.1 (ev_dec C hd rfl) w) k
theorem ev_ishl {x : Int32} {y : Int32} (hd : ev_at mi pc = some (.ishl, nx, tg)) (hn : nx = pc + 1) (k : EvQ mi nx lo (.int (x <<< (y &&& 31)) :: st) G h kc ks Q) : EvQ mi pc lo (.int y :: .int x :: st) G h kc ks Q := by
  subst hn
  exact ev_up (fun p l e R s m args below meth c b base ls H locs cells slots Qf C hL hS w => lv_ishl C.1 C.2.1 (ev_dec C hd rfl) w) k
theorem ev_ishr {x : Int32} {y : Int32} (hd : ev_at mi pc = some (.ishr, nx, tg)) (hn : nx = pc + 1) (k : EvQ mi nx lo (.int (x >>> (y &&& 31)) :: st) G h kc ks Q) : EvQ mi pc lo (.int y :: .int x :: st) G h kc ks Q := by
  subst hn
  exact ev_up (fun p l e R s m args below meth c b base ls H locs cells slots Qf C hL hS w => lv_ishr C.1 C.2.1 (ev_dec C hd rfl) w) k
theorem ev_iushr {x : Int32} {y : Int32} (hd : ev_at mi pc = some (.iushr, nx, tg)) (hn : nx = pc + 1) (k : EvQ mi nx lo (.int ((x.toUInt32 >>> (y.toUInt32 &&& Int32.toUInt32 31)).toInt32) :: st) G h kc ks Q) : EvQ mi pc lo (.int y :: .int x :: st) G h kc ks Q := by
  subst hn
  exact ev_up (fun p l e R s m args below meth c b base ls H locs cells slots Qf C hL hS w => lv_iushr C.1 C.2.1 (ev_dec C hd rfl) rfl w) k
theorem ev_lshl {x : Int64} {y : Int32} (hd : ev_at mi pc = some (.lshl, nx, tg)) (hn : nx = pc + 1) (k : EvQ mi nx lo (.long (x <<< (y.toInt64 &&& 63)) :: st) G h kc ks Q) : EvQ mi pc lo (.int y :: .long x :: st) G h kc ks Q := by
  subst hn
  exact ev_up (fun p l e R s m args below meth c b base ls H locs cells slots Qf C hL hS w => lv_lshl C.1 C.2.1 (ev_dec C hd rfl) rfl w) k
theorem ev_lshr {x : Int64} {y : Int32} (hd : ev_at mi pc = some (.lshr, nx, tg)) (hn : nx = pc + 1) (k : EvQ mi nx lo (.long (x >>> (y.toInt64 &&& 63)) :: st) G h kc ks Q) : EvQ mi pc lo (.int y :: .long x :: st) G h kc ks Q := by
  subst hn
  exact ev_up (fun p l e R s m args below meth c b base ls H locs cells slots Qf C hL hS w => lv_lshr C.1 C.2.1 (ev_dec C hd rfl) rfl w) k
theorem ev_lcmp {x : Int64} {y : Int64} (hd : ev_at mi pc = some (.lcmp, nx, tg)) (hn : nx = pc + 1) (k : EvQ mi nx lo (.int (lg_cmp x y) :: st) G h kc ks Q) : EvQ mi pc lo (.long y :: .long x :: st) G h kc ks Q := by
  subst hn
  exact ev_up (fun p l e R s m args below meth c b base ls H locs cells slots Qf C hL hS w => W.lcmp C.1 C.2.1 (ev_dec C hd rfl) w) k
theorem ev_ineg {x : Int32} (hd : ev_at mi pc = some (.ineg, nx, tg)) (hn : nx = pc + 1) (k : EvQ mi nx lo (.int (-x) :: st) G h kc ks Q) : EvQ mi pc lo (.int x :: st) G h kc ks Q := by
  subst hn
  exact ev_up (fun p l e R s m args below meth c b base ls H locs cells slots Qf C hL hS w => lv_ineg C.1 C.2.1 (ev_dec C hd rfl) w) k
theorem ev_i2l {x : Int32} (hd : ev_at mi pc = some (.i2l, nx, tg)) (hn : nx = pc + 1) (k : EvQ mi nx lo (.long (x.toInt64) :: st) G h kc ks Q) : EvQ mi pc lo (.int x :: st) G h kc ks Q := by
  subst hn
  exact ev_up (fun p l e R s m args below meth c b base ls H locs cells slots Qf C hL hS w => lv_i2l C.1 C.2.1 (ev_dec C hd rfl) rfl w) k
theorem ev_l2i {x : Int64} (hd : ev_at mi pc = some (.l2i, nx, tg)) (hn : nx = pc + 1) (k : EvQ mi nx lo (.int (x.toInt32) :: st) G h kc ks Q) : EvQ mi pc lo (.long x :: st) G h kc ks Q := by
  subst hn
  exact ev_up (fun p l e R s m args below meth c b base ls H locs cells slots Qf C hL hS w => lv_l2i C.1 C.2.1 (ev_dec C hd rfl) rfl w) k
theorem ev_i2b {x : Int32} (hd : ev_at mi pc = some (.i2b, nx, tg)) (hn : nx = pc + 1) (k : EvQ mi nx lo (.int (x.toInt8.toInt32) :: st) G h kc ks Q) : EvQ mi pc lo (.int x :: st) G h kc ks Q := by
  subst hn
  exact ev_up (fun p l e R s m args below meth c b base ls H locs cells slots Qf C hL hS w => lv_i2b C.1 C.2.1 (ev_dec C hd rfl) rfl w) k
theorem ev_i2s {x : Int32} (hd : ev_at mi pc = some (.i2s, nx, tg)) (hn : nx = pc + 1) (k : EvQ mi nx lo (.int (x.toInt16.toInt32) :: st) G h kc ks Q) : EvQ mi pc lo (.int x :: st) G h kc ks Q := by
  subst hn
  exact ev_up (fun p l e R s m args below meth c b base ls H locs cells slots Qf C hL hS w => lv_i2s C.1 C.2.1 (ev_dec C hd rfl) rfl w) k
theorem ev_icmp_eq {x y : Int32} {off : Int} (hd : ev_at mi pc = some (.if_icmp .eq off, nx, tg)) (hn : nx = pc + 3) (kt : x = y → EvQ mi tg lo st G h kc ks Q) (kf : ¬ x = y → EvQ mi nx lo st G h kc ks Q) : EvQ mi pc lo (.int y :: .int x :: st) G h kc ks Q := by
  subst hn
  intro p l e R s m args below meth c b base ls H locs cells slots Qf C hL hS hB hcc hss hret
  exact lv_icmp_eq C.1 C.2.1 (ev_dec C hd rfl) (by simpa [ev_off] using ev_tgt C hd) (fun q => kt q p l e R s m args below meth c b base ls H locs cells slots Qf C hL hS hB hcc hss hret) (fun q => kf q p l e R s m args below meth c b base ls H locs cells slots Qf C hL hS hB hcc hss hret)
theorem ev_if_eq {x : Int32} {off : Int} (hd : ev_at mi pc = some (.ifCond .eq off, nx, tg)) (hn : nx = pc + 3) (kt : x = 0 → EvQ mi tg lo st G h kc ks Q) (kf : ¬ x = 0 → EvQ mi nx lo st G h kc ks Q) : EvQ mi pc lo (.int x :: st) G h kc ks Q := by
  subst hn
  intro p l e R s m args below meth c b base ls H locs cells slots Qf C hL hS hB hcc hss hret
  exact lv_if_eq C.1 C.2.1 (ev_dec C hd rfl) (by simpa [ev_off] using ev_tgt C hd) (fun q => kt q p l e R s m args below meth c b base ls H locs cells slots Qf C hL hS hB hcc hss hret) (fun q => kf q p l e R s m args below meth c b base ls H locs cells slots Qf C hL hS hB hcc hss hret)
theorem ev_icmp_ne {x y : Int32} {off : Int} (hd : ev_at mi pc = some (.if_icmp .ne off, nx, tg)) (hn : nx = pc + 3) (kt : ¬ x = y → EvQ mi tg lo st G h kc ks Q) (kf : x = y → EvQ mi nx lo st G h kc ks Q) : EvQ mi pc lo (.int y :: .int x :: st) G h kc ks Q := by
  subst hn
  intro p l e R s m args below meth c b base ls H locs cells slots Qf C hL hS hB hcc hss hret
  exact lv_icmp_ne C.1 C.2.1 (ev_dec C hd rfl) (by simpa [ev_off] using ev_tgt C hd) (fun q => kt q p l e R s m args below meth c b base ls H locs cells slots Qf C hL hS hB hcc hss hret) (fun q => kf q p l e R s m args below meth c b base ls H locs cells slots Qf C hL hS hB hcc hss hret)
theorem ev_if_ne {x : Int32} {off : Int} (hd : ev_at mi pc = some (.ifCond .ne off, nx, tg)) (hn : nx = pc + 3) (kt : ¬ x = 0 → EvQ mi tg lo st G h kc ks Q) (kf : x = 0 → EvQ mi nx lo st G h kc ks Q) : EvQ mi pc lo (.int x :: st) G h kc ks Q := by
  subst hn
  intro p l e R s m args below meth c b base ls H locs cells slots Qf C hL hS hB hcc hss hret
  exact lv_if_ne C.1 C.2.1 (ev_dec C hd rfl) (by simpa [ev_off] using ev_tgt C hd) (fun q => kt q p l e R s m args below meth c b base ls H locs cells slots Qf C hL hS hB hcc hss hret) (fun q => kf q p l e R s m args below meth c b base ls H locs cells slots Qf C hL hS hB hcc hss hret)
theorem ev_icmp_lt {x y : Int32} {off : Int} (hd : ev_at mi pc = some (.if_icmp .lt off, nx, tg)) (hn : nx = pc + 3) (kt : x < y → EvQ mi tg lo st G h kc ks Q) (kf : ¬ x < y → EvQ mi nx lo st G h kc ks Q) : EvQ mi pc lo (.int y :: .int x :: st) G h kc ks Q := by
  subst hn
  intro p l e R s m args below meth c b base ls H locs cells slots Qf C hL hS hB hcc hss hret
  exact lv_icmp_lt C.1 C.2.1 (ev_dec C hd rfl) (by simpa [ev_off] using ev_tgt C hd) (fun q => kt q p l e R s m args below meth c b base ls H locs cells slots Qf C hL hS hB hcc hss hret) (fun q => kf q p l e R s m args below meth c b base ls H locs cells slots Qf C hL hS hB hcc hss hret)
theorem ev_if_lt {x : Int32} {off : Int} (hd : ev_at mi pc = some (.ifCond .lt off, nx, tg)) (hn : nx = pc + 3) (kt : x < 0 → EvQ mi tg lo st G h kc ks Q) (kf : ¬ x < 0 → EvQ mi nx lo st G h kc ks Q) : EvQ mi pc lo (.int x :: st) G h kc ks Q := by
  subst hn
  intro p l e R s m args below meth c b base ls H locs cells slots Qf C hL hS hB hcc hss hret
  exact lv_if_lt C.1 C.2.1 (ev_dec C hd rfl) (by simpa [ev_off] using ev_tgt C hd) (fun q => kt q p l e R s m args below meth c b base ls H locs cells slots Qf C hL hS hB hcc hss hret) (fun q => kf q p l e R s m args below meth c b base ls H locs cells slots Qf C hL hS hB hcc hss hret)
theorem ev_icmp_ge {x y : Int32} {off : Int} (hd : ev_at mi pc = some (.if_icmp .ge off, nx, tg)) (hn : nx = pc + 3) (kt : y ≤ x → EvQ mi tg lo st G h kc ks Q) (kf : ¬ y ≤ x → EvQ mi nx lo st G h kc ks Q) : EvQ mi pc lo (.int y :: .int x :: st) G h kc ks Q := by
  subst hn
  intro p l e R s m args below meth c b base ls H locs cells slots Qf C hL hS hB hcc hss hret
  exact lv_icmp_ge C.1 C.2.1 (ev_dec C hd rfl) (by simpa [ev_off] using ev_tgt C hd) (fun q => kt q p l e R s m args below meth c b base ls H locs cells slots Qf C hL hS hB hcc hss hret) (fun q => kf q p l e R s m args below meth c b base ls H locs cells slots Qf C hL hS hB hcc hss hret)
theorem ev_if_ge {x : Int32} {off : Int} (hd : ev_at mi pc = some (.ifCond .ge off, nx, tg)) (hn : nx = pc + 3) (kt : 0 ≤ x → EvQ mi tg lo st G h kc ks Q) (kf : ¬ 0 ≤ x → EvQ mi nx lo st G h kc ks Q) : EvQ mi pc lo (.int x :: st) G h kc ks Q := by
  subst hn
  intro p l e R s m args below meth c b base ls H locs cells slots Qf C hL hS hB hcc hss hret
  exact lv_if_ge C.1 C.2.1 (ev_dec C hd rfl) (by simpa [ev_off] using ev_tgt C hd) (fun q => kt q p l e R s m args below meth c b base ls H locs cells slots Qf C hL hS hB hcc hss hret) (fun q => kf q p l e R s m args below meth c b base ls H locs cells slots Qf C hL hS hB hcc hss hret)
theorem ev_icmp_gt {x y : Int32} {off : Int} (hd : ev_at mi pc = some (.if_icmp .gt off, nx, tg)) (hn : nx = pc + 3) (kt : y < x → EvQ mi tg lo st G h kc ks Q) (kf : ¬ y < x → EvQ mi nx lo st G h kc ks Q) : EvQ mi pc lo (.int y :: .int x :: st) G h kc ks Q := by
  subst hn
  intro p l e R s m args below meth c b base ls H locs cells slots Qf C hL hS hB hcc hss hret
  exact lv_icmp_gt C.1 C.2.1 (ev_dec C hd rfl) (by simpa [ev_off] using ev_tgt C hd) (fun q => kt q p l e R s m args below meth c b base ls H locs cells slots Qf C hL hS hB hcc hss hret) (fun q => kf q p l e R s m args below meth c b base ls H locs cells slots Qf C hL hS hB hcc hss hret)
theorem ev_if_gt {x : Int32} {off : Int} (hd : ev_at mi pc = some (.ifCond .gt off, nx, tg)) (hn : nx = pc + 3) (kt : 0 < x → EvQ mi tg lo st G h kc ks Q) (kf : ¬ 0 < x → EvQ mi nx lo st G h kc ks Q) : EvQ mi pc lo (.int x :: st) G h kc ks Q := by
  subst hn
  intro p l e R s m args below meth c b base ls H locs cells slots Qf C hL hS hB hcc hss hret
  exact lv_if_gt C.1 C.2.1 (ev_dec C hd rfl) (by simpa [ev_off] using ev_tgt C hd) (fun q => kt q p l e R s m args below meth c b base ls H locs cells slots Qf C hL hS hB hcc hss hret) (fun q => kf q p l e R s m args below meth c b base ls H locs cells slots Qf C hL hS hB hcc hss hret)
theorem ev_icmp_le {x y : Int32} {off : Int} (hd : ev_at mi pc = some (.if_icmp .le off, nx, tg)) (hn : nx = pc + 3) (kt : x ≤ y → EvQ mi tg lo st G h kc ks Q) (kf : ¬ x ≤ y → EvQ mi nx lo st G h kc ks Q) : EvQ mi pc lo (.int y :: .int x :: st) G h kc ks Q := by
  subst hn
  intro p l e R s m args below meth c b base ls H locs cells slots Qf C hL hS hB hcc hss hret
  exact lv_icmp_le C.1 C.2.1 (ev_dec C hd rfl) (by simpa [ev_off] using ev_tgt C hd) (fun q => kt q p l e R s m args below meth c b base ls H locs cells slots Qf C hL hS hB hcc hss hret) (fun q => kf q p l e R s m args below meth c b base ls H locs cells slots Qf C hL hS hB hcc hss hret)
theorem ev_if_le {x : Int32} {off : Int} (hd : ev_at mi pc = some (.ifCond .le off, nx, tg)) (hn : nx = pc + 3) (kt : x ≤ 0 → EvQ mi tg lo st G h kc ks Q) (kf : ¬ x ≤ 0 → EvQ mi nx lo st G h kc ks Q) : EvQ mi pc lo (.int x :: st) G h kc ks Q := by
  subst hn
  intro p l e R s m args below meth c b base ls H locs cells slots Qf C hL hS hB hcc hss hret
  exact lv_if_le C.1 C.2.1 (ev_dec C hd rfl) (by simpa [ev_off] using ev_tgt C hd) (fun q => kt q p l e R s m args below meth c b base ls H locs cells slots Qf C hL hS hB hcc hss hret) (fun q => kf q p l e R s m args below meth c b base ls H locs cells slots Qf C hL hS hB hcc hss hret)
theorem ev_goto {off : Int} (hd : ev_at mi pc = some (.goto off, nx, tg)) (hn : nx = pc + 3) (k : EvQ mi tg lo st G h kc ks Q) : EvQ mi pc lo st G h kc ks Q :=
  ev_up (fun p l e R s m args below meth c b base ls H locs cells slots Qf C hL hS w => lv_goto C.1 C.2.1 (ev_dec C hd hn) (by simpa [ev_off] using ev_tgt C hd) w) k
theorem ev_ifnn {off : Int} {x : Nat} (hd : ev_at mi pc = some (.ifnonnull off, nx, tg)) (hn : nx = pc + 3) (k : EvQ mi tg lo st G h kc ks Q) : EvQ mi pc lo (.ref x :: st) G h kc ks Q :=
  ev_up (fun p l e R s m args below meth c b base ls H locs cells slots Qf C hL hS w => lv_ifnonnull C.1 C.2.1 (ev_dec C hd hn) (by simpa [ev_off] using ev_tgt C hd) w) k
theorem ev_ifnnN {off : Int} (hd : ev_at mi pc = some (.ifnonnull off, nx, tg)) (hn : nx = pc + 3) (k : EvQ mi nx lo st G h kc ks Q) : EvQ mi pc lo (.null :: st) G h kc ks Q := by
  subst hn
  exact ev_up (fun p l e R s m args below meth c b base ls H locs cells slots Qf C hL hS w => lv_ifnonnullN C.1 C.2.1 (ev_dec C hd rfl) w) k
theorem ev_tabIn {dflt lw hi : Int} {offs : Array Int} {x : Int32} {off : Int} (t : Nat) (hd : ev_at mi pc = some (.tableswitch dflt lw hi offs, nx, tg)) (h1 : ¬ x.toInt < lw) (h2 : ¬ hi < x.toInt) (ho : offs[(x.toInt - lw).toNat]? = some off) (ht : (pc : Int) + off = (t : Int)) (k : EvQ mi t lo st G h kc ks Q) : EvQ mi pc lo (.int x :: st) G h kc ks Q :=
  ev_up (fun p l e R s m args below meth c b base ls H locs cells slots Qf C hL hS w => lv_tableIn C.1 C.2.1 (C.2.2.2.2.2.2.2.2.2.2.2 pc _ nx tg hd).1 h1 h2 ho ht w) k
theorem ev_tabOut {dflt lw hi : Int} {offs : Array Int} {x : Int32} (t : Nat) (hd : ev_at mi pc = some (.tableswitch dflt lw hi offs, nx, tg)) (h1 : x.toInt < lw ∨ hi < x.toInt) (ht : (pc : Int) + dflt = (t : Int)) (k : EvQ mi t lo st G h kc ks Q) : EvQ mi pc lo (.int x :: st) G h kc ks Q :=
  ev_up (fun p l e R s m args below meth c b base ls H locs cells slots Qf C hL hS w => lv_tableOut C.1 C.2.1 (C.2.2.2.2.2.2.2.2.2.2.2 pc _ nx tg hd).1 h1 ht w) k
theorem ev_lookup {dflt : Int} {ps : Array (Int × Int)} {x : Int32} {off : Int} (t : Nat) (hd : ev_at mi pc = some (.lookupswitch dflt ps, nx, tg)) (hp : (ps.toList.zip (ps.toList.drop 1)).all (fun (a, next) => a.1 < next.1) = true) (ho : Op.lookupswitch.offset ps.toList dflt x.toInt = off) (ht : (pc : Int) + off = (t : Int)) (k : EvQ mi t lo st G h kc ks Q) : EvQ mi pc lo (.int x :: st) G h kc ks Q :=
  ev_up (fun p l e R s m args below meth c b base ls H locs cells slots Qf C hL hS w => lv_lookup C.1 C.2.1 (C.2.2.2.2.2.2.2.2.2.2.2 pc _ nx tg hd).1 hp ho ht w) k
theorem ev_iret {x : Int32} (hd : ev_at mi pc = some (.ireturn, nx, tg)) (hn : nx = pc + 1) (ht : ev_rt (mi_R mi) (some (.int x))) (hq : Q (some (.int x)) G h) : EvQ mi pc lo [.int x] G h kc ks Q := by
  intro p l e R s m args below meth c b base ls H locs cells slots Qf C hL hS hB hcc hss hret
  exact W.widen (by omega) (by omega) (hret (some (.int x)) G h pc nx tg ls H locs hq ht hS hB hd hn)
theorem ev_vret (hd : ev_at mi pc = some (.return_, nx, tg)) (hn : nx = pc + 1) (ht : ev_rt (mi_R mi) none) (hq : Q none G h) : EvQ mi pc lo [] G h kc ks Q := by
  intro p l e R s m args below meth c b base ls H locs cells slots Qf C hL hS hB hcc hss hret
  exact W.widen (by omega) (by omega) (hret none G h pc nx tg ls H locs hq ht hS hB hd hn)
end EVR

