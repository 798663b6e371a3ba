/-! making cells -/
theorem ev_sh_app {G : Geo} {x : List (Shp × List (Option Nat))} {i : Nat} (h : i < G.length) : ev_sh (G ++ x) i = ev_sh G i := by
  unfold ev_sh; rw [List.getElem?_append_left h]
theorem ev_gr_app {G : Geo} {x : List (Shp × List (Option Nat))} {i j : Nat} (h : i < G.length) : ev_gr (G ++ x) i j = ev_gr G i j := by
  unfold ev_gr; rw [List.getElem?_append_left h]
theorem ev_S.len {b base : Nat} {G : Geo} {h : Hp} {U : State} {H : Heap} (hS : ev_S b base G h U H) : 0 < G.length := by
  obtain ⟨-, -, ⟨L, h3, -⟩, -⟩ := hS
  exact ev_sh_lt h3
/-- cells come behind all others -/
theorem ev_S.grow {b base : Nat} {G : Geo} {x : List (Shp × List (Option Nat))} {h : Hp} {U : State} {H H' : Heap} (hS : ev_S b base G h U H) (hsz : H'.size = H.size + x.length) (ho : ∀ q, q < H.size → H'[q]? = H[q]?)
    (hc : ∀ (i : Nat) (z : Shp), i < x.length → ev_sh (G ++ x) (G.length + i) = some z → ev_cell b base (G ++ x) h U H' (G.length + i) z) : ev_S b base (G ++ x) h U H' := by
  have hlen := hS.len
  obtain ⟨h1, h2, ⟨L, h3, h4⟩, h5⟩ := hS
  refine ⟨h1, by rw [hsz, h2, List.length_append]; omega, ⟨L, by rw [ev_sh_app hlen]; exact h3, h4.kept (ho b (by omega))⟩, fun a z ha hz => ?_⟩
  by_cases hl : a < G.length
  · rw [ev_sh_app hl] at hz
    have hold := h5 a z ha hz
    have hkeep : H'[base + a]? = H[base + a]? := ho _ (by omega)
    have hsv : ∀ (ty : FieldType) (k : Nat), ev_sv b base ty G h a k = ev_sv b base ty (G ++ x) h a k := fun ty k => by
      unfold ev_sv; rw [ev_gr_app hl]
    cases z with
    | inl c =>
      obtain ⟨q, cC, iS, g1, g2, g3⟩ := hold
      exact ⟨q, cC, iS, g1, g2, (g3.kept hkeep).to (fun k _ => hsv _ k)⟩
    | inr t =>
      obtain ⟨ty, n⟩ := t
      obtain ⟨cA, g1, g2⟩ := hold
      refine ⟨cA, g1, ?_⟩
      rw [hkeep, g2]
      exact congrArg (fun f => some (arrV cA n f)) (funext fun j => hsv ty j)
  · have hl2 : a < G.length + x.length := by
      have := ev_sh_lt hz
      rwa [List.length_append] at this
    have e : a = G.length + (a - G.length) := by omega
    rw [e] at hz ⊢
    exact hc _ z (by omega) hz
theorem ev_def_ref {ty : FieldType} (h : ty.isReference = true) : defaultValue ty = .null := by cases ty <;> first | rfl | cases h
section EVN
variable {mi : MI} {pc nx tg ix : Nat} {lo : List (Option Value)} {st : List Value} {G : Geo} {h : Hp} {kc ks : Nat} {Q : Pst}
theorem ev_gr_none {G : Geo} {z : Shp} {rl : List (Option Nat)} (hr : ∀ r ∈ rl, r = none) (k : Nat) : ev_gr (G ++ [(z, rl)]) G.length k = none := by
  unfold ev_gr
  rw [List.getElem?_append_right (Nat.le_refl _), Nat.sub_self]
  show (match rl[k]? with | none => none | some r => r) = none
  cases hk : rl[k]? with
  | none => rfl
  | some r => exact hr r (List.mem_of_getElem? hk)
theorem ev_sh_last {G : Geo} {z : Shp} {rl : List (Option Nat)} : ev_sh (G ++ [(z, rl)]) G.length = some z := by
  unfold ev_sh
  rw [List.getElem?_append_right (Nat.le_refl _), Nat.sub_self]
  rfl
theorem ev_new {c N a : Nat} (hd : ev_at mi pc = some (.new ix, nx, tg)) (hn : nx = pc + 3) (hk : ev_cl mi.1.cls ix c) (hN : (vwCl[c]?).map (fun q => q.2.2) = some N) (ha : G.length = a) (h0 : ∀ j, h a j = 0)
    (kk : EvQ mi nx lo (.ref a :: st) (G ++ [(.inl c, List.replicate N none)]) h kc ks Q) : EvQ mi pc lo st G h (1 + kc) (N + ks) Q := by
  subst hn
  subst ha
  obtain ⟨q, e1, e2, e3, e4, e5, e6, e7⟩ := hk
  rw [e1] at hN
  have hN : q.2.2 = N := Option.some.inj hN
  subst hN
  intro p l e R s m args below meth c0 b base ls H locs cells slots Qf C hL hS hB hcc hss hret
  have hts := C.2.2.2.2.2.1
  obtain ⟨cC, iS, gK⟩ := u_known hts e5 (hts _ e3)
  have hsz := hS.2.1
  have hlen := hS.len
  refine W.newcK C.1 C.2.1 C.2.2.2.2.1 (hts _ e2) (hts _ e3) (hts _ e4) rfl (ev_dec C hd rfl) (by omega) (by omega) gK.2.1 rfl (fun H1 kC hkC o1 z1 o2 => ?_)
  have hS1 : ev_S b base (G ++ [(.inl c, List.replicate q.2.2 none)]) h s H1 := by
    refine hS.grow z1 o2 (fun i z hi hz => ?_)
    have hi0 : i = 0 := by simp at hi; omega
    subst hi0
    rw [Nat.add_zero, ev_sh_last] at hz
    cases hz
    rw [Nat.add_zero]
    refine ⟨q, cC, iS, e1, gK, ?_⟩
    rw [← hsz]
    refine (u_born (tyCl c) hts e5 gK hkC o1 e6).to (fun k hk => ?_)
    unfold ev_sv
    rw [ev_gr_none (fun r hr => List.eq_of_mem_replicate hr), h0]
    by_cases ht : (tyCl c k).isReference = true
    · rw [if_pos ht, ev_def_ref ht]; rfl
    · rw [if_neg ht]
      exact (e7 k hk).resolve_left ht
  have key := kk p l e R s m args below meth c0 b base ls H1 locs (cells + 1) (slots + q.2.2) Qf C hL hS1 hB (by omega) (by omega) (fun v2 G2 h2 pc2 nx2 tg2 ls2 H2 locs2 q1 q2 q3 q4 q5 q6 => by
    have := hret v2 G2 h2 pc2 nx2 tg2 ls2 H2 locs2 q1 q2 q3 q4 q5 q6
    rw [← Nat.add_assoc, ← Nat.add_assoc] at this
    exact this)
  have ead : ev_ad b base G.length = H.size := by rw [ev_ad_pos hlen, hsz]
  have e9 : (Value.ref G.length :: st).map (ev_rv b base) = .ref H.size :: st.map (ev_rv b base) := by
    rw [List.map_cons]
    show Value.ref (ev_ad b base G.length) :: _ = _
    rw [ead]
  rw [e9] at key
  exact key
theorem ev_newa {aty : ArrayType} {ty : FieldType} {n : Int32} {N a : Nat} (hd : ev_at mi pc = some (.newarray aty, nx, tg)) (hn : nx = pc + 2) (hty : newarray.typeOf aty = ty) (hw : Cond.arrayClass ty ∈ gwl) (hdv : defaultValue ty = .int 0 ∧ ty.isReference = false) (hn0 : ¬ n < 0) (hN : n.toNatClampNeg = N) (hb : N * componentBytes ty ≤ 536870912) (ha : G.length = a) (h0 : ∀ j, h a j = 0)
    (kk : EvQ mi nx lo (.ref a :: st) (G ++ [(.inr (ty, N), [])]) h kc ks Q) : EvQ mi pc lo (.int n :: st) G h (1 + kc) (N + ks) Q := by
  subst hn
  subst ha
  subst hty
  intro p l e R s m args below meth c0 b base ls H locs cells slots Qf C hL hS hB hcc hss hret
  have hts := C.2.2.2.2.2.1
  have hsz := hS.2.1
  have hlen := hS.len
  refine W.newaK C.1 C.2.1 (hts _ hw) rfl (ev_dec C hd rfl) rfl hn0 hN hb (by omega) (by omega) rfl (fun H1 cA o1 z1 o2 hA => ?_)
  have hS1 : ev_S b base (G ++ [(.inr (newarray.typeOf aty, N), [])]) h s H1 := by
    refine hS.grow z1 o2 (fun i z hi hz => ?_)
    have hi0 : i = 0 := by simp at hi; omega
    subst hi0
    rw [Nat.add_zero, ev_sh_last] at hz
    cases hz
    rw [Nat.add_zero]
    refine ⟨cA, hA, ?_⟩
    rw [← hsz, o1]
    refine congrArg (fun f => some (arrV cA N f)) (funext fun j => ?_)
    unfold ev_sv
    rw [hdv.2, hdv.1, h0]
    rfl
  have key := kk p l e R s m args below meth c0 b base ls H1 locs (cells + 1) (slots + N) Qf C hL hS1 hB (by omega) (by omega) (fun v2 G2 h2 pc2 nx2 tg2 ls2 H2 locs2 q1 q2 q3 q4 q5 q6 => by
    have := hret v2 G2 h2 pc2 nx2 tg2 ls2 H2 locs2 q1 q2 q3 q4 q5 q6
    rw [← Nat.add_assoc, ← Nat.add_assoc] at this
    exact this)
  have ead : ev_ad b base G.length = H.size := by rw [ev_ad_pos hlen, hsz]
  have e9 : (Value.ref G.length :: st).map (ev_rv b base) = .ref H.size :: st.map (ev_rv b base) := by
    rw [List.map_cons]
    show Value.ref (ev_ad b base G.length) :: _ = _
    rw [ead]
  rw [e9] at key
  exact key
/-- Object's constructor -/
theorem ev_obj {a : Nat} (hd : ev_at mi pc = some (.invokespecial ix, nx, tg)) (hn : nx = pc + 3) (h1 : Cond.methodLink mi.1.cls ix objectInit ∈ gwl) (h2 : Cond.instanceMethod objectInit ∈ gwl) (h3 : Cond.code objectInit ⟨#[0xb1]⟩ 1 none ∈ gwl) (hF : Nat.ble 1 (mi_F mi) = true) (hSz : Nat.ble 12 (mi_S mi) = true) (kk : EvQ mi nx lo [] G h kc ks Q) : EvQ mi pc lo [.ref a] G h kc ks Q := by
  subst hn
  intro p l e R s m args below meth c0 b base ls H locs cells slots Qf C hL hS hB hcc hss hret
  have hts := C.2.2.2.2.2.1
  have z1 := Nat.le_of_ble_eq_true hF
  have z2 := Nat.le_of_ble_eq_true hSz
  have z3 := C.2.2.2.2.2.2.2.2.1
  have z4 := C.2.2.2.2.2.2.2.2.2.1
  exact W.objInit (g := F0 m pc ls [.ref (ev_ad b base a)]) C.1 C.2.1 C.2.2.2.2.1 (hts _ h1) (hts _ h2) (hts _ h3) rfl (by obtain ⟨l0, hl, -⟩ := hL; rw [C.2.2.1]; exact hl.1) (rest := []) rfl (ev_dec C hd rfl) (by omega) (by show 2 * 0 + 0 + 12 ≤ _; omega) (kk p l e R s m args below meth c0 b base ls H locs cells slots Qf C hL hS hB hcc hss hret)
theorem ev_outer (c : ClassId) (N h0 : Nat) : ∀ i : Nat, Jvm.Free.Multi.outerC c N h0 i = arrV c N (fun j => if j < i then .ref (h0 + 1 + j) else .null)
  | 0 => by
    show ({ cls := c, slots := Array.replicate N .null, vm := .none } : Cell) = _
    rw [arrV_new]
    exact congrArg (arrV c N) (funext fun j => by simp)
  | i + 1 => by
    show (Jvm.Free.Multi.outerC c N h0 i).setSlot i (.ref (h0 + 1 + i)) = _
    rw [ev_outer c N h0 i, arrV_store]
    refine congrArg (arrV c N) (funext fun j => ?_)
    by_cases e : j = i
    · subst e; simp [updV]
    · by_cases h : j < i
      · simp [updV, e, h, Nat.lt_succ_of_lt h]
      · simp [updV, e, h, show ¬ j < i + 1 by omega]
/-- new int[N][K] -/
theorem ev_mna {n k : Int32} {N K a : Nat} (hd : ev_at mi pc = some (.multianewarray ix 2, nx, tg)) (hn : nx = pc + 4) (hw : Cond.classLink mi.1.cls ix "[[I" ∈ gwl) (hw2 : Cond.arrayClass .int ∈ gwl) (hn0 : ¬ n < 0) (hk0 : ¬ k < 0) (hN : n.toNatClampNeg = N) (hK : k.toNatClampNeg = K) (hb1 : N * 4 ≤ 536870912) (hb2 : K * 4 ≤ 536870912) (ha : G.length = a) (h0 : ∀ i j, a ≤ i → h i j = 0)
    (kk : EvQ mi nx lo (.ref a :: st) (G ++ ((.inr (.array .int, N), (List.range N).map (fun i => some (a + 1 + i))) :: List.replicate N (.inr (.int, K), []))) h kc ks Q) : EvQ mi pc lo (.int k :: .int n :: st) G h (1 + N + kc) (N + N * K + ks) Q := by
  subst hn
  subst ha
  subst hN
  subst hK
  intro p l e R s m args below meth c0 b base ls H locs cells slots Qf C hL hS hB hcc hss hret T hT X
  have hts := C.2.2.2.2.2.1
  have hsz := hS.2.1
  have hlen := hS.len
  obtain ⟨vm₁, cA, comp, -, fA, fC, hO, hI, X', step⟩ := X.multianewarray2F C.1 (ty := .int) C.2.2.2.2.1 (hts _ hw) C.2.2.2.2.2.2.2.2.2.2.1.2 (hts _ hw2) (g := F0 m pc ls (.int k :: .int n :: st.map (ev_rv b base))) rfl (by rw [C.2.1]; exact ev_dec C hd rfl) rfl hn0 hk0 hb1 hb2 (by omega) rfl rfl (by omega) (by omega)
  generalize hF : Jvm.Free.Multi.fill (T.setVm vm₁) cA comp n.toNatClampNeg k.toNatClampNeg (defaultValue .int) n.toNatClampNeg = F at X' step
  have hTh : (T.setVm vm₁).heap = H := hT
  obtain ⟨f1, f2, -, -⟩ := Jvm.Free.Multi.fill_facts (T.setVm vm₁) cA comp n.toNatClampNeg k.toNatClampNeg (defaultValue .int) n.toNatClampNeg
  rw [hF, hTh] at f1 f2
  have hold : ∀ x : Nat, x < H.size → F.heap[x]? = H[x]? := fun x hx => by
    have := Jvm.Free.Multi.fill_old (T.setVm vm₁) cA comp n.toNatClampNeg k.toNatClampNeg (defaultValue .int) (a := x) (by rw [hTh]; exact hx) n.toNatClampNeg
    rw [hF, hTh] at this
    exact this
  have hrow : ∀ j : Nat, j < n.toNatClampNeg → F.heap[H.size + 1 + j]? = some (Jvm.Free.Multi.innerC comp k.toNatClampNeg (defaultValue .int)) := fun j hj => by
    have := Jvm.Free.Multi.fill_inner (T.setVm vm₁) cA comp n.toNatClampNeg k.toNatClampNeg (defaultValue .int) n.toNatClampNeg j hj
    rw [hF, hTh] at this
    exact this
  have hAo : ArrOfT s cA (.array .int) := fun N9 z9 => by
    obtain ⟨-, k9, hk9, cm9, hkk9⟩ := (hO 0 0 0).1
    exact ⟨(fun q hq => by cases hq), k9, hk9, cm9, hkk9⟩
  have hAi : ArrOfT s comp .int := fun N9 z9 => by
    obtain ⟨-, k9, hk9, cm9, hkk9⟩ := (hI 0 .null).1
    exact ⟨(fun q hq => by cases hq), k9, hk9, cm9, hkk9⟩
  have hS1 : ev_S b base (G ++ ((.inr (.array .int, n.toNatClampNeg), (List.range n.toNatClampNeg).map (fun i => some (G.length + 1 + i))) :: List.replicate n.toNatClampNeg (.inr (.int, k.toNatClampNeg), []))) h s F.heap := by
    refine hS.grow (by rw [f1, List.length_cons, List.length_replicate]; omega) hold (fun i z hi hz => ?_)
    cases i with
    | zero =>
      rw [show G.length + 0 = G.length from rfl] at hz ⊢
      have hz0 : ev_sh (G ++ ((.inr (.array .int, n.toNatClampNeg), (List.range n.toNatClampNeg).map (fun i => some (G.length + 1 + i))) :: List.replicate n.toNatClampNeg (.inr (.int, k.toNatClampNeg), []))) G.length = some (.inr (.array .int, n.toNatClampNeg)) := by
        unfold ev_sh; rw [List.getElem?_append_right (Nat.le_refl _), Nat.sub_self]; rfl
      rw [hz0] at hz
      cases hz
      refine ⟨cA, hAo, ?_⟩
      rw [← hsz, f2]
      rw [ev_outer]
      have hcong : ∀ f g : Nat → Value, (∀ j, j < n.toNatClampNeg → f j = g j) → arrV cA n.toNatClampNeg f = arrV cA n.toNatClampNeg g := fun f g hfg => by
        unfold arrV
        congr 1
        apply Array.ext_getElem?
        intro j
        by_cases hj : j < n.toNatClampNeg
        · simp only [Array.getElem?_ofFn, hj]; rw [hfg j hj]
        · rw [Array.getElem?_eq_none (by simp; omega), Array.getElem?_eq_none (by simp; omega)]
      refine congrArg some (hcong _ _ (fun j hj => ?_))
      have hg : ev_gr (G ++ ((.inr (.array .int, n.toNatClampNeg), (List.range n.toNatClampNeg).map (fun i => some (G.length + 1 + i))) :: List.replicate n.toNatClampNeg (.inr (.int, k.toNatClampNeg), []))) G.length j = some (G.length + 1 + j) := by
        unfold ev_gr
        rw [List.getElem?_append_right (Nat.le_refl _), Nat.sub_self]
        show (match ((List.range n.toNatClampNeg).map (fun i => some (G.length + 1 + i)))[j]? with | none => none | some r => r) = _
        rw [List.getElem?_map, List.getElem?_range hj]
        rfl
      have ht : (FieldType.array FieldType.int).isReference = true := rfl
      unfold ev_sv
      rw [if_pos ht, hg, if_pos hj]
      show Value.ref (H.size + 1 + j) = Value.ref (ev_ad b base (G.length + 1 + j))
      rw [ev_ad_pos (show 0 < G.length + 1 + j from Nat.lt_of_lt_of_le (Nat.succ_pos G.length) (Nat.le_add_right _ _)), hsz, Nat.add_assoc base, Nat.add_assoc base]
    | succ i =>
      have hi' : i < n.toNatClampNeg := by simp at hi; omega
      have hz0 : (G ++ ((.inr (.array .int, n.toNatClampNeg), (List.range n.toNatClampNeg).map (fun i => some (G.length + 1 + i))) :: List.replicate n.toNatClampNeg ((.inr (.int, k.toNatClampNeg), []) : Shp × List (Option Nat))))[G.length + (i + 1)]? = some (.inr (.int, k.toNatClampNeg), []) := by
        rw [List.getElem?_append_right (by omega), show G.length + (i + 1) - G.length = i + 1 by omega, List.getElem?_cons_succ, List.getElem?_replicate, if_pos hi']
      have hz1 : ev_sh (G ++ ((.inr (.array .int, n.toNatClampNeg), (List.range n.toNatClampNeg).map (fun i => some (G.length + 1 + i))) :: List.replicate n.toNatClampNeg (.inr (.int, k.toNatClampNeg), []))) (G.length + (i + 1)) = some (.inr (.int, k.toNatClampNeg)) := by
        unfold ev_sh; rw [hz0]; rfl
      rw [hz1] at hz
      cases hz
      refine ⟨comp, hAi, ?_⟩
      have := hrow i hi'
      rw [show base + (G.length + (i + 1)) = H.size + 1 + i by omega, this]
      unfold Jvm.Free.Multi.innerC
      rw [arrV_new]
      refine congrArg (fun f => some (arrV comp k.toNatClampNeg f)) (funext fun j => ?_)
      show Value.int 0 = Value.int (h (G.length + (i + 1)) j)
      rw [h0 _ _ (by omega)]
  have key := kk p l e R s m args below meth c0 b base ls F.heap locs (cells + 1 + n.toNatClampNeg) (slots + n.toNatClampNeg + n.toNatClampNeg * k.toNatClampNeg) Qf C hL hS1 hB (by omega) (by omega) (fun v2 G2 h2 pc2 nx2 tg2 ls2 H2 locs2 q1 q2 q3 q4 q5 q6 => by
    have := hret v2 G2 h2 pc2 nx2 tg2 ls2 H2 locs2 q1 q2 q3 q4 q5 q6
    rw [show cells + 1 + n.toNatClampNeg + kc = cells + (1 + n.toNatClampNeg + kc) by omega, show slots + n.toNatClampNeg + n.toNatClampNeg * k.toNatClampNeg + ks = slots + (n.toNatClampNeg + n.toNatClampNeg * k.toNatClampNeg + ks) by omega]
    exact this)
  have ead : ev_ad b base G.length = T.heap.size := by rw [ev_ad_pos hlen, hT, hsz]
  have e9 : (Value.ref G.length :: st).map (ev_rv b base) = .ref T.heap.size :: st.map (ev_rv b base) := by
    rw [List.map_cons]
    show Value.ref (ev_ad b base G.length) :: _ = _
    rw [ead]
  rw [e9] at key
  obtain ⟨t, a1, b1⟩ := key F rfl X'
  exact ⟨t, step t a1, b1⟩
/-- System.arraycopy between int arrays of ours, from one to another cell -/
def ev_cpy (h : Hp) (x y sp dp n : Nat) : Hp := fun i j => if i = y then va_cpy (h x) (h y) sp dp n j else h i j
theorem ev_copy {x y n0 n1 sN dN nN : Nat} {sp dp n : Int32} (hd : ev_at mi pc = some (.invokestatic ix, nx, tg)) (hn : nx = pc + 3) (w1 : Cond.methodLink mi.1.cls ix arraycopyName ∈ gwl) (w2 : Cond.native arraycopyName ∈ gwl) (w3 : Cond.static arraycopyName ∈ gwl) (w4 : Cond.initialized "java/lang/System" ∈ gwl) (hx : Nat.blt 0 x = true) (hy : Nat.blt 0 y = true) (zx : ev_sh G x = some (.inr (.int, n0))) (zy : ev_sh G y = some (.inr (.int, n1)))
    (h1 : ¬ sp < 0) (h2 : ¬ dp < 0) (h3 : ¬ n < 0) (e1 : sp.toNatClampNeg = sN) (e2 : dp.toNatClampNeg = dN) (e3 : n.toNatClampNeg = nN) (h4 : sN + nN ≤ n0) (h5 : dN + nN ≤ n1) (hF : Nat.ble 1 (mi_F mi) = true) (hSz : Nat.ble 26 (mi_S mi) = true) (hw : (st.map fun v => v.category).sum ≤ 8)
    (kk : EvQ mi nx lo st G (ev_cpy h x y sN dN nN) kc ks Q) : EvQ mi pc lo (.int n :: .int dp :: .ref y :: .int sp :: .ref x :: st) G h kc ks Q := by
  subst hn
  subst e1
  subst e2
  subst e3
  intro p l e R s m args below meth c0 b base ls H locs cells slots Qf C hL hS hB hcc hss hret T hT X
  have hts := C.2.2.2.2.2.1
  have hx : 0 < x := Nat.le_of_ble_eq_true hx
  have hy : 0 < y := Nat.le_of_ble_eq_true hy
  have z1 := Nat.le_of_ble_eq_true hF
  have z2 := Nat.le_of_ble_eq_true hSz
  have z3 := C.2.2.2.2.2.2.2.2.1
  have z4 := C.2.2.2.2.2.2.2.2.2.1
  obtain ⟨c1, A1, g1⟩ := hS.2.2.2 x _ hx zx
  obtain ⟨c2, A2, g2⟩ := hS.2.2.2 y _ hy zy
  have g1 : H[base + x]? = some (arrV c1 n0 (fun j => .int (h x j))) := g1
  have g2 : H[base + y]? = some (arrV c2 n1 (fun j => .int (h y j))) := g2
  have nn : ∀ z : Int32, ¬ z < 0 → z.toInt = (z.toNatClampNeg : Int) := by
    intro z hz
    have hz0 : (0 : Int) ≤ z.toInt := by
      have := Int32.not_lt.mp hz
      simpa using Int32.le_iff_toInt_le.mp this
    show z.toInt = ((z.toInt.toNat : Nat) : Int)
    omega
  obtain ⟨-, k0, hk0, cm0, hkk0⟩ := A1 n0 (fun j => .int (h x j))
  obtain ⟨-, k1, hk1, cm1, hkk1⟩ := A2 n1 (fun j => .int (h y j))
  obtain ⟨vm', X', step⟩ := X.arraycopy C.1 C.2.2.2.2.1 (hts _ w1) (hts _ w2) (hts _ w3) (hts _ w4) (src := base + x) (dst := base + y) (cs := arrV c1 n0 (fun j => .int (h x j))) (cd := arrV c2 n1 (fun j => .int (h y j))) (srcPos := sp) (destPos := dp) (n := n) (by rw [hT]; exact g1) (by rw [hT]; exact g2)
    (fun _ h => by cases h) (fun _ h => by cases h) (fun h => by cases h) (fun h => by cases h) hk0 hk1 hkk0 hkk1 rfl h1 h2 h3
    (by rw [nn sp h1, nn n h3, arrV_size]; omega) (by rw [nn dp h2, nn n h3, arrV_size]; omega)
    (fun vm₁ _ i hi => by
      have e : (arrV c1 n0 (fun j => .int (h x j))).slots.getD (sp.toNatClampNeg + i) .null = .int (h x (sp.toNatClampNeg + i)) := by
        rw [Array.getD_eq_getD_getElem?, arrV_read _ _ (by omega)]
        rfl
      exact ⟨by rw [e]; rfl, by rw [e]; exact trivial⟩)
    (g := F0 m pc ls (.int n :: .int dp :: .ref (base + y) :: .int sp :: .ref (base + x) :: st.map (ev_rv b base))) rfl (by obtain ⟨l0, hl, -⟩ := hL; rw [C.2.2.1]; exact hl.1) (rest := st.map (ev_rv b base)) rfl (by rw [C.2.1]; exact ev_dec C hd rfl) (by omega) (by
      rw [ev_sum]
      show 2 * 0 + _ + (5 + 2 + 11) ≤ _
      omega)
  have ec : copied (arrV c1 n0 (fun j => .int (h x j))) (arrV c2 n1 (fun j => .int (h y j))) sp dp n = arrV c2 n1 (fun j => .int (va_cpy (h x) (h y) sp.toNatClampNeg dp.toNatClampNeg n.toNatClampNeg j)) := va_copied (fun z => .int z) c1 c2 (h x) (h y) h4
  rw [ec] at X' step
  have hl : base + y < H.size := (Array.getElem?_eq_some_iff.mp g2).1
  have hheap : ((T.setVm vm').setCell (base + y) (arrV c2 n1 (fun j => .int (va_cpy (h x) (h y) sp.toNatClampNeg dp.toNatClampNeg n.toNatClampNeg j)))).heap = H.setIfInBounds (base + y) (arrV c2 n1 (fun j => .int (va_cpy (h x) (h y) sp.toNatClampNeg dp.toNatClampNeg n.toNatClampNeg j))) := by rw [← hT]; rfl
  have hS1 : ev_S b base G (ev_cpy h x y sp.toNatClampNeg dp.toNatClampNeg n.toNatClampNeg) s (H.setIfInBounds (base + y) (arrV c2 n1 (fun j => .int (va_cpy (h x) (h y) sp.toNatClampNeg dp.toNatClampNeg n.toNatClampNeg j)))) := by
    refine hS.upd hy zy rfl (fun _ => rfl) (fun _ _ _ => rfl) (fun i j hi => if_neg hi) (by simp) (fun q hq => by simp [Array.getElem?_setIfInBounds, Ne.symm hq]) ⟨c2, A2, ?_⟩
    rw [show (H.setIfInBounds (base + y) (arrV c2 n1 (fun j => .int (va_cpy (h x) (h y) sp.toNatClampNeg dp.toNatClampNeg n.toNatClampNeg j))))[base + y]? = some (arrV c2 n1 (fun j => .int (va_cpy (h x) (h y) sp.toNatClampNeg dp.toNatClampNeg n.toNatClampNeg j))) by simp [Array.getElem?_setIfInBounds, hl]]
    refine congrArg (fun f => some (arrV c2 n1 f)) (funext fun j => ?_)
    unfold ev_sv ev_cpy
    rw [if_pos rfl]
    rfl
  obtain ⟨t, a1, b1⟩ := kk p l e R s m args below meth c0 b base ls _ _ cells slots Qf C hL hS1 (hB.app (fun q hq => by
      obtain ⟨z, -, hz⟩ := List.mem_map.mp hq
      rw [← hz]
      show base < base + y
      omega)) hcc hss hret _ hheap X'
  refine ⟨t, ?_, b1⟩
  have := step t a1
  have e9 : (Value.int n :: .int dp :: .ref y :: .int sp :: .ref x :: st).map (ev_rv b base) = .int n :: .int dp :: .ref (base + y) :: .int sp :: .ref (base + x) :: st.map (ev_rv b base) := by
    show Value.int n :: .int dp :: .ref (ev_ad b base y) :: .int sp :: .ref (ev_ad b base x) :: _ = _
    rw [ev_ad_pos hx, ev_ad_pos hy]
  rw [e9]
  exact this
end EVN
/-- the heap is only looked at where it is: another picture that agrees there does as well -/
def ev_wd (c : Nat) : Nat := match vwCl[c]? with
  | none => 0
  | some q => q.2.2
theorem ev_S.congr {b base : Nat} {G : Geo} {h h' : Hp} {U : State} {H : Heap} (hS : ev_S b base G h U H) (he : ∀ (a j : Nat) (z : Shp), ev_sh G a = some z → (match z with | .inl c => j < ev_wd c | .inr t => j < t.2) → h a j = h' a j) : ev_S b base G h' U H := by
  obtain ⟨h1, h2, ⟨L, h3, scr, x1, x2, x3, x4, x5⟩, h5⟩ := hS
  refine ⟨h1, h2, ⟨L, h3, scr, x1, x2, x3, x4, fun j hj => by rw [x5 j hj, he 0 j _ h3 hj]⟩, fun a z ha hz => ?_⟩
  have hold := h5 a z ha hz
  cases z with
  | inl c =>
    obtain ⟨q, cC, iS, g1, g2, g3⟩ := hold
    refine ⟨q, cC, iS, g1, g2, g3.to (fun k hk => ?_)⟩
    unfold ev_sv
    rw [he a k _ hz (by show k < ev_wd c; unfold ev_wd; rw [g1]; exact hk)]
  | inr t =>
    obtain ⟨ty, n⟩ := t
    obtain ⟨cA, g1, g2⟩ := hold
    refine ⟨cA, g1, ?_⟩
    rw [g2]
    refine congrArg some ?_
    unfold arrV
    congr 1
    apply Array.ext_getElem?
    intro j
    by_cases hj : j < n
    · simp only [Array.getElem?_ofFn, hj]
      unfold ev_sv
      rw [he a j _ hz hj]
    · rw [Array.getElem?_eq_none (by simp; omega), Array.getElem?_eq_none (by simp; omega)]
theorem EvQ.congr {mi : MI} {pc : Nat} {lo : List (Option Value)} {st : List Value} {G : Geo} {h h' : Hp} {kc ks : Nat} {Q : Pst} (k : EvQ mi pc lo st G h' kc ks Q) (he : ∀ (a j : Nat) (z : Shp), ev_sh G a = some z → (match z with | .inl c => j < ev_wd c | .inr t => j < t.2) → h a j = h' a j) : EvQ mi pc lo st G h kc ks Q := by
  intro p l e R s m args below meth c b base ls H locs cells slots Qf C hL hS hB hcc hss hret
  exact k p l e R s m args below meth c b base ls H locs cells slots Qf C hL (hS.congr he) hB hcc hss hret

