/-! THE CLAIM OUT OF ONE WALK OF THE LAW'S BODY. Your part is whole_start (and what it stands on); all else here is the same for every law, but numbers. -/
def R_law : String := "SteamTunesLaw"
def lw_P (b : Addr) (xs : List Int32) (args : Array Value) (s : State) : Prop := args = #[.ref b] ∧ s.IntsAt b xs ∧ xs.length ≤ 4096 ∧ (Jvm.Cond.and given_1 narrow_1).before args s = true
def lw_Q (_ : Array Value) (s : State) (o : Outcome) (t : State) : Prop := o = .returned (some (.int 1)) ∧ Framed s o t [] 600000 7302250
def lw_Z (below : List Frame) (a : Array Value) (s : State) : State → Prop := fun t => ∃ o, t.status = .running ∧ Ended t below o ∧ lw_Q a s o t
/-- the law's own end, with 1 on the stack, nothing written that was there before, its room as the claim has it -/
theorem lw_ret {p : Program} {l : Launch} {e : Env} {s : State} {m : MethodId} {below : List Frame} {meth : Method} {c : Code} {b : Nat} (hx : p.tables.exec = Jvm.exec) (hb : c.code = code) (hr : meth.sig.returnType = ret) (hlocks : meth.locks = false) {pc : Nat} {H : Heap} {ls : Array Slot} (hdg : decode code pc = .ok (.ireturn, 1)) : W p l e room_1 s m #[Value.ref b] below meth c H [] 600000 7302250 (lw_Z below #[Value.ref b] s) (F0 m pc ls [.int 1]) := by
  intro T hT X
  obtain ⟨fs, hret, hrun, hended, hW, hframe⟩ := X.leave (v := some (.int 1)) (hlocks := hlocks) (fun h => by rw [hr] at h; cases h)
  have hmeth' : T.vm.method? m = some meth := X.method'
  refine ⟨T.setFrames fs, ?_, .returned (some (.int 1)), hrun, hended, rfl, ⟨_, rfl⟩, hW, hframe⟩
  jvm_step X.here [X.here.top, hx, hb, hdg, hmeth', hr, ret, narrow_b1]
  (try refine ⟨rfl, ?_⟩); (try refine ⟨rfl, ?_⟩)
  first | (intro acts; rw [hret _ acts rfl rfl rfl]) | rw [hret _ _ rfl rfl rfl]
  exact Steps.refl _
/-- what holds at the law's entry: the machine, the code, the tables' words (any of lw_tbl by 'hts w (by decide +kernel)'), the script of L ints xs at the cell b, what the Statement gives of the start (any of its parts by flat_of_before) -/
def lw_At (p : Program) (s : State) (m : MethodId) (meth : Method) (c : Code) (b L : Nat) (xs : Nat → Int32) : Prop :=
  p.tables.exec = Jvm.exec ∧ c.code = code ∧ meth.sig.returnType = ret ∧ c.maxLocals = 4 ∧ s.vm.findClass R_law = some m.cls ∧ (∀ w ∈ lw_tbl, w.before #[Value.ref b] s = true) ∧ va_X b L xs s s.heap ∧ b < s.heap.size ∧ meth.locks = false ∧ (Jvm.Cond.and given_1 narrow_1).before #[Value.ref b] s = true

theorem tb_in1 {w : Cond} (i : Nat) (h : tables_1_1[i]? = some w) : w ∈ lw_tbl := (List.mem_append_right _ (List.mem_append_left _ (List.mem_of_getElem? h)))
theorem tb_in2 {w : Cond} (i : Nat) (h : tables_1_2[i]? = some w) : w ∈ lw_tbl := (List.mem_append_right _ (List.mem_append_right _ (List.mem_append_left _ (List.mem_of_getElem? h))))
theorem tb_in3 {w : Cond} (i : Nat) (h : tables_1_3[i]? = some w) : w ∈ lw_tbl := (List.mem_append_right _ (List.mem_append_right _ (List.mem_append_right _ (List.mem_append_left _ (List.mem_of_getElem? h)))))
theorem tb_in4 {w : Cond} (i : Nat) (h : tables_1_4[i]? = some w) : w ∈ lw_tbl := (List.mem_append_right _ (List.mem_append_right _ (List.mem_append_right _ (List.mem_append_right _ (List.mem_append_left _ (List.mem_of_getElem? h))))))
set_option maxRecDepth 100000 in
theorem nw_in : ∀ q ∈ nest_w, Cond.methodLinkNest q.1 q.2.1 q.2.2.1 q.2.2.2 ∈ lw_tbl := by
  intro q hq
  unfold nest_w at hq
  simp only [List.mem_cons, List.not_mem_nil, or_false] at hq
  rcases hq with rfl | rfl | rfl | rfl | rfl | rfl | rfl | rfl | rfl | rfl | rfl | rfl | rfl | rfl | rfl
  · exact tb_in1 26 rfl
  · exact tb_in1 60 rfl
  · exact tb_in1 109 rfl
  · exact tb_in1 132 rfl
  · exact tb_in1 187 rfl
  · exact tb_in1 208 rfl
  · exact tb_in2 23 rfl
  · exact tb_in2 54 rfl
  · exact tb_in2 101 rfl
  · exact tb_in2 233 rfl
  · exact tb_in3 118 rfl
  · exact tb_in3 185 rfl
  · exact tb_in3 186 rfl
  · exact tb_in4 92 rfl
  · exact tb_in4 98 rfl
theorem ov_in : Cond.arrayOver (.array .int) ∈ lw_tbl := tb_in1 114 rfl
theorem whole_start {p : Program} {e : Env} {s : State} {m : MethodId} {below : List Frame} {meth : Method} {c : Code} (l : Launch) {b L : Nat} {xs : Nat → Int32} (hL : L ≤ 4096) (C0 : lw_At p s m meth c b L xs) : W p l e room_1 s m #[Value.ref b] below meth c s.heap [] 0 0 (lw_Z below #[Value.ref b] s) (entryFrame m ([Value.ref b] : List Value).toArray 4) := by
  obtain ⟨hx, hb, hr, hml, hown, hts, hX, hbl, hlk, hgv⟩ := C0
  have hN : ev_N s := ⟨fun q hq => va_Nw.of rfl (hts _ (nw_in q hq)), over_moved (Vm.Alike.refl _) (hts _ ov_in)⟩
  have C : ev_C mi_L_law p room_1 s m #[Value.ref b] meth c := ⟨hx, hb, hml, hr, hown, fun w hw => hts w (List.mem_filter.mp hw).1, hlk, fun q => absurd q (by decide), by decide, by decide, hN, ok_L_law⟩
  have hl := lv_entry [Value.ref b] (n := 4) (show (lg_sl [Value.ref b]).length ≤ 4 from Nat.le_of_ble_eq_true rfl)
  rw [lg_entry_eq]
  generalize ((lg_sl [Value.ref b] ++ List.replicate (4 - (lg_sl [Value.ref b]).length) Slot.unset).toArray) = ls at hl ⊢
  have hS : ev_S b (s.heap.size - 1) [(.inr (.int, L), [])] (h_00 xs) s s.heap := ⟨by omega, by show s.heap.size = s.heap.size - 1 + 1; omega, ⟨L, rfl, hX⟩, fun a z ha hz => by
    cases a with
    | zero => exact absurd ha (Nat.lt_irrefl 0)
    | succ a => cases hz⟩
  refine w_all xs L hL p l e room_1 s m _ below meth c b (s.heap.size - 1) ls s.heap [] 0 0 _ C ⟨_, hl, fun i v hv => ev_lo_in b (s.heap.size - 1) 4 [.ref 0] i v hv⟩ hS (fun q hq => by cases hq) (by decide) (by decide) ?_
  intro v G' h' pc' nx tg ls' H' locs' hq hrt hS' hB' hd hn
  have hdd := ev_dec C hd hn
  have hv : v = some (.int 1) := hq
  subst hv
  refine va_forget (fun q hq => by have := hB' q hq; omega) ?_
  exact W.widen (by decide) (by decide) (lw_ret hx hb hr hlk hdd)

