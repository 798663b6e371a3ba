/-- what the class's methods leave alone: the script, the model -/
def Fr (h1 h : Hp) : Prop := ∀ i j, (i = 0 ∨ 63 ≤ i) → h1 i j = h i j
theorem Fr.refl (h : Hp) : Fr h h := fun _ _ _ => rfl
theorem Fr.set {h1 h : Hp} {a k : Nat} {x : Int32} (hf : Fr h1 h) (h0 : 0 < a) (h6 : a < 63) : Fr (ev_set h1 a k x) h := fun i j hi => by
  rw [ev_rd2 (by omega)]
  exact hf i j hi
theorem Fr.trans {a b c : Hp} (h1 : Fr a b) (h2 : Fr b c) : Fr a c := fun i j hi => (h1 i j hi).trans (h2 i j hi)
theorem Fr.keep (h : Hp) {n : Nat} (hn : n < 10) : Fr (k_keep h n) h := fun i j hi => k_keep_ne (by omega) (by omega)
/-- a method of the class: its answer, and the script and the model as they were -/
def EvF (mi : MI) (args : List Value) (G : Geo) (h : Hp) (r : Int32) : Prop := EvM mi args G h 0 0 (fun v G' h' => v = some (.int r) ∧ G' = G ∧ Fr h' h)
theorem EvD.f {mi : MI} {args : List Value} {G : Geo} {h h1 : Hp} {r : Int32} (k : EvD mi args G h r h1) (hf : Fr h1 h) : EvF mi args G h r := EvM.mono k (fun _ _ _ q => ⟨q.1, q.2.1, q.2.2 ▸ hf⟩)
section EVF
variable {mi ce : MI} {pc nx tg ix : Nat} {lo : List (Option Value)} {st : List Value} {G : Geo} {h h1 : Hp} {kc ks : Nat} {Q : Pst} {r : Int32} {v1 v2 v3 v4 v5 v6 v7 : Value} {a c : Nat}
end EVF

