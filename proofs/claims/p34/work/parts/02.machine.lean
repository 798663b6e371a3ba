/-! THE ABSTRACT MACHINE: EvQ speaks of a method's frame over an abstract heap (G: shapes and references, h: ints);
    each rule below is one instruction. Abstract address 0 is the script, k > 0 is the k-th cell made since the law began. -/
abbrev Shp : Type := Nat ⊕ (FieldType × Nat)
abbrev Geo : Type := List (Shp × List (Option Nat))
abbrev Hp : Type := Nat → Nat → Int32
abbrev Ent : Type := Instr × Nat × Nat
abbrev Tab : Type := List (Nat × List (Nat × Ent))
/-- name, code, locals, return, frames, locals' words, class, table -/
abbrev MI : Type := MethodName × ByteArray × Nat × Option FieldType × Nat × Nat × Nat × Tab
abbrev mi_C (mi : MI) : ByteArray := mi.2.1
abbrev mi_L (mi : MI) : Nat := mi.2.2.1
abbrev mi_R (mi : MI) : Option FieldType := mi.2.2.2.1
abbrev mi_F (mi : MI) : Nat := mi.2.2.2.2.1
abbrev mi_S (mi : MI) : Nat := mi.2.2.2.2.2.1
abbrev mi_K (mi : MI) : Nat := mi.2.2.2.2.2.2.1
abbrev mi_T (mi : MI) : Tab := mi.2.2.2.2.2.2.2
def ev_l1 : List (Nat × Ent) → Nat → Option Ent
  | [], _ => none
  | q :: r, pc => bif Nat.beq q.1 pc then some q.2 else ev_l1 r pc
def ev_l2 : Tab → Nat → Option Ent
  | [], _ => none
  | c :: r, pc => bif Nat.ble pc c.1 then ev_l1 c.2 pc else ev_l2 r pc
abbrev ev_at (mi : MI) (pc : Nat) : Option Ent := ev_l2 (mi_T mi) pc
def ev_off (pc : Nat) (tg : Nat) : Instr → Bool
  | .goto o => (pc : Int) + o == (tg : Int)
  | .ifCond _ o => (pc : Int) + o == (tg : Int)
  | .if_icmp _ o => (pc : Int) + o == (tg : Int)
  | .ifnull o => (pc : Int) + o == (tg : Int)
  | .ifnonnull o => (pc : Int) + o == (tg : Int)
  | _ => true
def ev_eok (cc : ByteArray) (q : Nat × Ent) : Bool := decide (decode cc q.1 = .ok (q.2.1, q.2.2.1 - q.1)) && Nat.ble q.1 q.2.2.1 && ev_off q.1 q.2.2.2 q.2.1
def ev_ok (mi : MI) : Prop := ∀ pc i nx tg, ev_at mi pc = some (i, nx, tg) → decode (mi_C mi) pc = .ok (i, nx - pc) ∧ pc ≤ nx ∧ ev_off pc tg i = true
theorem ev_l1_in : ∀ (l : List (Nat × Ent)) (pc : Nat) (x : Ent), ev_l1 l pc = some x → (pc, x) ∈ l
  | [], _, _, h => by cases h
  | q :: r, pc, x, h => by
    unfold ev_l1 at h
    cases hq : Nat.beq q.1 pc with
    | true =>
      rw [hq] at h
      have h1 : q.1 = pc := Nat.eq_of_beq_eq_true hq
      have h2 : q.2 = x := Option.some.inj h
      rw [← h1, ← h2]
      exact List.mem_cons_self
    | false =>
      rw [hq] at h
      exact List.mem_cons_of_mem _ (ev_l1_in r pc x h)
theorem ev_l2_in : ∀ (l : Tab) (pc : Nat) (x : Ent), ev_l2 l pc = some x → ∃ c ∈ l, (pc, x) ∈ c.2
  | [], _, _, h => by cases h
  | c :: r, pc, x, h => by
    unfold ev_l2 at h
    cases hq : Nat.ble pc c.1 with
    | true => rw [hq] at h; exact ⟨c, List.mem_cons_self, ev_l1_in _ _ _ h⟩
    | false =>
      rw [hq] at h
      obtain ⟨d, hd, hx⟩ := ev_l2_in r pc x h
      exact ⟨d, List.mem_cons_of_mem _ hd, hx⟩
theorem ev_ok_of {mi : MI} (h : (mi_T mi).all (fun c => c.2.all (ev_eok (mi_C mi))) = true) : ev_ok mi := by
  intro pc i nx tg hx
  obtain ⟨c, hc, hm⟩ := ev_l2_in _ _ _ hx
  have h1 := List.all_eq_true.mp (List.all_eq_true.mp h c hc) _ hm
  simp only [ev_eok, Bool.and_eq_true, decide_eq_true_eq] at h1
  exact ⟨h1.1.1, Nat.le_of_ble_eq_true h1.1.2, h1.2⟩
/-! addresses and values -/
def ev_ad (b base k : Nat) : Nat := if k = 0 then b else base + k
def ev_rv (b base : Nat) : Value → Value
  | .ref k => .ref (ev_ad b base k)
  | v => v
theorem ev_rv_cat (b base : Nat) (v : Value) : (ev_rv b base v).category = v.category := by cases v <;> rfl
def ev_rf (b base : Nat) (r : Option Nat) : Value := match r with
  | none => .null
  | some k => .ref (ev_ad b base k)
def ev_vf (r : Option Nat) : Value := match r with
  | none => .null
  | some k => .ref k
theorem ev_rv_vf (b base : Nat) (r : Option Nat) : ev_rv b base (ev_vf r) = ev_rf b base r := by cases r <;> rfl
def ev_sh (G : Geo) (a : Nat) : Option Shp := (G[a]?).map (fun c => c.1)
def ev_gr (G : Geo) (a k : Nat) : Option Nat := match G[a]? with
  | none => none
  | some c => match c.2[k]? with
    | none => none
    | some r => r
def ev_sv (b base : Nat) (ty : FieldType) (G : Geo) (h : Hp) (a k : Nat) : Value := if ty.isReference = true then ev_rf b base (ev_gr G a k) else .int (h a k)
def ev_set (h : Hp) (a k : Nat) (x : Int32) : Hp := fun i j => if i = a ∧ j = k then x else h i j
def ev_rset (G : Geo) (a k : Nat) (r : Option Nat) : Geo := G.modify a (fun c => (c.1, c.2.set k r))
/-- the cell k > 0 of the abstract heap -/
def ev_cell (b base : Nat) (G : Geo) (h : Hp) (U : State) (H : Heap) (a : Nat) (z : Shp) : Prop := match z with
  | .inl c => ∃ (q : vw_C) (cC : ClassId) (iS : Nat → Nat), vwCl[c]? = some q ∧ u_Kn U q.1 q.2.1 q.2.2 cC iS ∧ t_OB (base + a) cC q.2.2 iS H (fun k => ev_sv b base (tyCl c k) G h a k)
  | .inr (ty, n) => ∃ cA : ClassId, ArrOfT U cA ty ∧ H[base + a]? = some (arrV cA n (fun j => ev_sv b base ty G h a j))
def ev_S (b base : Nat) (G : Geo) (h : Hp) (U : State) (H : Heap) : Prop :=
  b ≤ base ∧ H.size = base + G.length ∧ (∃ L : Nat, ev_sh G 0 = some (.inr (.int, L)) ∧ va_X b L (h 0) U H) ∧ ∀ (a : Nat) (z : Shp), 0 < a → ev_sh G a = some z → ev_cell b base G h U H a z
/-- the nest's words -/
def ev_N (U : State) : Prop := (∀ q ∈ nest_w, va_Nw (.methodLinkNest q.1 q.2.1 q.2.2.1 q.2.2.2) U) ∧ (Cond.arrayOver (.array .int)).before #[] U = true
theorem ev_N.moved {s U : State} (hW : s.WarmedH U.vm) (h : ev_N s) : ev_N U := ⟨fun q hq => va_Nw.warmM hW (h.1 q hq), over_moved hW.alike h.2⟩
theorem ev_cell.moved {b base : Nat} {G : Geo} {h : Hp} {u U : State} {H : Heap} {a : Nat} {z : Shp} (hvm : u.vm.Alike U.vm) (hc : ev_cell b base G h u H a z) : ev_cell b base G h U H a z := by
  cases z with
  | inl c =>
    obtain ⟨q, cC, iS, h1, h2, h3⟩ := hc
    exact ⟨q, cC, iS, h1, u_Kn_moved hvm h2, h3⟩
  | inr t =>
    obtain ⟨ty, n⟩ := t
    obtain ⟨cA, h1, h2⟩ := hc
    exact ⟨cA, arrOfT_moved hvm h1, h2⟩
theorem ev_S.moved {b base : Nat} {G : Geo} {h : Hp} {u U : State} {H : Heap} (hvm : u.vm.Alike U.vm) (hS : ev_S b base G h u H) : ev_S b base G h U H := by
  obtain ⟨h1, h2, ⟨L, h3, h4⟩, h5⟩ := hS
  exact ⟨h1, h2, ⟨L, h3, h4.moved hvm⟩, fun a z ha hz => (h5 a z ha hz).moved hvm⟩
theorem ev_sh_lt {G : Geo} {a : Nat} {z : Shp} (h : ev_sh G a = some z) : a < G.length := by
  unfold ev_sh at h
  cases hg : G[a]? with
  | none => rw [hg] at h; cases h
  | some c => exact (List.getElem?_eq_some_iff.mp hg).1
/-- an array is read: the script's or one of ours -/
theorem ev_S.arr {b base : Nat} {G : Geo} {h : Hp} {U : State} {H : Heap} (hS : ev_S b base G h U H) {a n : Nat} {ty : FieldType} (hz : ev_sh G a = some (.inr (ty, n))) :
    ∃ cell : Cell, H[ev_ad b base a]? = some cell ∧ U.isArrayOf cell ty ∧ cell.vm ≠ .unknown ∧ cell.slots.size = n ∧ ∀ j : Nat, j < n → cell.slots[j]? = some (ev_sv b base ty G h a j) := by
  obtain ⟨h1, h2, ⟨L, h3, scr, x1, x2, x3, x4, x5⟩, h5⟩ := hS
  by_cases ha : a = 0
  · subst ha
    rw [h3] at hz
    cases hz
    exact ⟨scr, x1, x2, x3, x4, fun j hj => by rw [x5 j hj]; rfl⟩
  · obtain ⟨cA, g1, g2⟩ := h5 a _ (Nat.pos_of_ne_zero ha) hz
    have e : ev_ad b base a = base + a := if_neg ha
    rw [e]
    exact ⟨_, g2, g1 _ _, (fun q => by cases q), arrV_size _ _ _, fun j hj => arrV_read _ _ hj⟩
/-- locals -/
def ev_L (b base nL : Nat) (lo : List (Option Value)) (ls : Array Slot) : Prop := ∃ l : List (Nat × Value), lv_has ls nL l ∧ ∀ (k : Nat) (v : Value), lo[k]? = some (some v) → (k, ev_rv b base v) ∈ l
theorem ev_L.get {b base nL k : Nat} {lo : List (Option Value)} {ls : Array Slot} {v : Value} (h : ev_L b base nL lo ls) (hk : lo[k]? = some (some v)) : ls[k]? = some (.val (ev_rv b base v)) := by
  obtain ⟨l, h1, h2⟩ := h
  exact h1.2.2 _ (h2 k v hk)
def ev_c1 (lo : List (Option Value)) : Nat → Bool
  | 0 => true
  | k + 1 => match lo[k]? with
    | some (some v) => Nat.beq v.category 1
    | _ => true
theorem ev_c1_spec {lo : List (Option Value)} {k : Nat} {w : Value} (h : ev_c1 lo (k + 1) = true) (hk : lo[k]? = some (some w)) : w.category = 1 := by
  simp only [ev_c1, hk] at h
  exact Nat.eq_of_beq_eq_true h
theorem ev_L.put1 {b base nL i : Nat} {lo : List (Option Value)} {l : List (Nat × Value)} {ls' : Array Slot} {v : Value} (h2 : ∀ (k : Nat) (w : Value), lo[k]? = some (some w) → (k, ev_rv b base w) ∈ l) (hc : ev_c1 lo i = true)
    (h : lv_has ls' nL ((i, ev_rv b base v) :: l.filter (fun q => !(q.1 == i) && !(q.1 + 1 == i && q.2.category == 2)))) : ev_L b base nL (lo.set i (some v)) ls' := by
  refine ⟨_, h, fun k w hk => ?_⟩
  by_cases e : k = i
  · subst e
    have hl : k < lo.length := by
      have := (List.getElem?_eq_some_iff.mp hk).1
      simpa using this
    rw [List.getElem?_set_self hl] at hk
    cases hk
    exact List.mem_cons_self
  · rw [List.getElem?_set_ne (Ne.symm e)] at hk
    refine List.mem_cons_of_mem _ (List.mem_filter.mpr ⟨h2 k w hk, ?_⟩)
    have e1 : (k == i) = false := by simpa using e
    have e2 : (k + 1 == i && (ev_rv b base w).category == 2) = false := by
      by_cases e3 : k + 1 = i
      · subst e3
        rw [ev_rv_cat, ev_c1_spec hc hk]
        simp
      · have : (k + 1 == i) = false := by simpa using e3
        rw [this]; rfl
    simp only [e1, e2]; rfl
theorem ev_L.put2 {b base nL i : Nat} {lo : List (Option Value)} {l : List (Nat × Value)} {ls' : Array Slot} {v : Value} (h2 : ∀ (k : Nat) (w : Value), lo[k]? = some (some w) → (k, ev_rv b base w) ∈ l) (hc : ev_c1 lo i = true)
    (h : lv_has ls' nL ((i, ev_rv b base v) :: l.filter (fun q => !(q.1 == i) && (!(q.1 == i + 1) && !(q.1 + 1 == i && q.2.category == 2))))) : ev_L b base nL ((lo.set i (some v)).set (i + 1) none) ls' := by
  refine ⟨_, h, fun k w hk => ?_⟩
  by_cases e0 : k = i + 1
  · subst e0
    exfalso
    have hl : i + 1 < (lo.set i (some v)).length := by
      have := (List.getElem?_eq_some_iff.mp hk).1
      simpa using this
    rw [List.getElem?_set_self hl] at hk
    cases hk
  rw [List.getElem?_set_ne (Ne.symm e0)] at hk
  by_cases e : k = i
  · subst e
    have hl : k < lo.length := by
      have := (List.getElem?_eq_some_iff.mp hk).1
      simpa using this
    rw [List.getElem?_set_self hl] at hk
    cases hk
    exact List.mem_cons_self
  · rw [List.getElem?_set_ne (Ne.symm e)] at hk
    refine List.mem_cons_of_mem _ (List.mem_filter.mpr ⟨h2 k w hk, ?_⟩)
    have e1 : (k == i) = false := by simpa using e
    have e4 : (k == i + 1) = false := by simpa using e0
    have e2 : (k + 1 == i && (ev_rv b base w).category == 2) = false := by
      by_cases e3 : k + 1 = i
      · subst e3
        rw [ev_rv_cat, ev_c1_spec hc hk]
        simp
      · have : (k + 1 == i) = false := by simpa using e3
        rw [this]; rfl
    simp only [e1, e2, e4]; rfl
def ev_al : List Value → List (Option Value)
  | [] => []
  | v :: vs => if v.category = 2 then some v :: none :: ev_al vs else some v :: ev_al vs
theorem ev_al_cons (v : Value) (vs : List Value) : ev_al (v :: vs) = if v.category = 2 then some v :: none :: ev_al vs else some v :: ev_al vs := rfl
theorem ev_al_in (b base : Nat) : ∀ (vs : List Value) (i k : Nat) (v : Value), (ev_al vs)[k]? = some (some v) → (i + k, ev_rv b base v) ∈ lv_args i (vs.map (ev_rv b base))
  | [], i, k, v, h => by simp [ev_al] at h
  | w :: vs, i, k, v, h => by
    rw [List.map_cons]
    unfold lv_args
    rw [ev_al_cons] at h
    rw [ev_rv_cat]
    by_cases hc : w.category = 2
    · rw [if_pos hc] at h ⊢
      match k, h with
      | 0, h => cases h; exact List.mem_cons_self
      | 1, h => cases h
      | k + 2, h =>
        have h' : (ev_al vs)[k]? = some (some v) := h
        have := ev_al_in b base vs (i + 2) k v h'
        rw [show i + 2 + k = i + (k + 2) by omega] at this
        exact List.mem_cons_of_mem _ this
    · rw [if_neg hc] at h ⊢
      match k, h with
      | 0, h => cases h; exact List.mem_cons_self
      | k + 1, h =>
        have h' : (ev_al vs)[k]? = some (some v) := h
        have := ev_al_in b base vs (i + 1) k v h'
        rw [show i + 1 + k = i + (k + 1) by omega] at this
        exact List.mem_cons_of_mem _ this
def ev_lo (nL : Nat) (args : List Value) : List (Option Value) := ev_al args ++ List.replicate (nL - (ev_al args).length) none
theorem ev_lo_in (b base nL : Nat) (vs : List Value) (k : Nat) (v : Value) (h : (ev_lo nL vs)[k]? = some (some v)) : (k, ev_rv b base v) ∈ lv_args 0 (vs.map (ev_rv b base)) := by
  unfold ev_lo at h
  by_cases hk : k < (ev_al vs).length
  · rw [List.getElem?_append_left hk] at h
    have := ev_al_in b base vs 0 k v h
    rwa [Nat.zero_add] at this
  · rw [List.getElem?_append_right (by omega)] at h
    have := List.eq_of_mem_replicate (List.mem_of_getElem? h)
    cases this
theorem ev_al_len : ∀ (b base : Nat) (vs : List Value), (lg_sl (vs.map (ev_rv b base))).length = (ev_al vs).length
  | b, base, [] => rfl
  | b, base, v :: vs => by
    have ih := ev_al_len b base vs
    unfold lg_sl at ih ⊢
    rw [List.map_cons, List.flatMap_cons, List.length_append, ih, ev_rv_cat, ev_al_cons]
    by_cases hc : v.category = 2
    · rw [if_pos hc, if_pos hc]; simp; omega
    · rw [if_neg hc, if_neg hc]; simp; omega
/-! words -/
def gwl : List Cond := lw_tbl.filter goodWord
theorem gwl_in {w : Cond} (i : Nat) (h : lw_tbl[i]? = some w) (g : goodWord w = true) : w ∈ gwl := List.mem_filter.mpr ⟨List.mem_of_getElem? h, g⟩
theorem gwl_all (ws : List Cond) (ps : List Nat) (hp : ws = ps.filterMap (fun i => lw_tbl[i]?)) (h : ws.all goodWord = true) : ∀ w ∈ ws, w ∈ gwl := by
  intro w hw
  have h1 := List.all_eq_true.mp h w hw
  rw [hp] at hw
  obtain ⟨i, -, hi⟩ := List.mem_filterMap.mp hw
  exact gwl_in i hi h1
theorem gwl_good : GoodIn gwl gwl := fun w hw => ⟨hw, good_of_word (List.mem_filter.mp hw).2⟩
/-- which field a pool index names: the class's number, the field's number, by its words -/
def ev_fl (own : String) (ix c k : Nat) : Prop := ∃ q : vw_C, vwCl[c]? = some q ∧ k < q.2.2 ∧ (∀ w ∈ u_ws q.1 q.2.1 q.2.2, w ∈ gwl) ∧ Cond.fieldLink own ix (q.2.1 k).1 (q.2.1 k).2.1 (q.2.1 k).2.2.1 ∈ gwl ∧ (∀ j, j < q.2.2 → parseFieldDescriptor (q.2.1 j).2.2.1 = some (tyCl c j)) ∧ (∀ a, a < q.2.2 → ∀ b, b < q.2.2 → a ≠ b → (q.2.1 a).2.1 ≠ (q.2.1 b).2.1)
def ev_lk (own : String) (ix : Nat) (ce : MI) (n : Nat) : Prop := Cond.methodLink own ix ce.1 ∈ gwl ∧ Cond.code ce.1 (mi_C ce) (mi_L ce) (mi_R ce) ∈ gwl ∧ Cond.initialized ce.1.cls ∈ gwl ∧ ce.1.cls ≠ "java/lang/invoke/MethodHandle" ∧ ce.1.cls ≠ "java/lang/invoke/VarHandle" ∧ (parseMethodDescriptor ce.1.desc).map (fun d => d.parameters.length) = some n
def ev_ln (own : String) (ix : Nat) (ce : MI) (n : Nat) : Prop := (∃ host : String, (own, ix, ce.1, host) ∈ nest_w) ∧ Cond.code ce.1 (mi_C ce) (mi_L ce) (mi_R ce) ∈ gwl ∧ Cond.initialized ce.1.cls ∈ gwl ∧ ce.1.cls ≠ "java/lang/invoke/MethodHandle" ∧ ce.1.cls ≠ "java/lang/invoke/VarHandle" ∧ (parseMethodDescriptor ce.1.desc).map (fun d => d.parameters.length) = some n
def ev_cl (own : String) (ix c : Nat) : Prop := ∃ q : vw_C, vwCl[c]? = some q ∧ Cond.classLink own ix q.1 ∈ gwl ∧ Cond.instantiable q.1 q.2.2 ∈ gwl ∧ Cond.initialized q.1 ∈ gwl ∧ (∀ w ∈ u_ws q.1 q.2.1 q.2.2, w ∈ gwl) ∧ (∀ j, j < q.2.2 → parseFieldDescriptor (q.2.1 j).2.2.1 = some (tyCl c j)) ∧ (∀ j, j < q.2.2 → (tyCl c j).isReference = true ∨ defaultValue (tyCl c j) = .int 0)
