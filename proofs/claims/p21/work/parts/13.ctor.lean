abbrev GeoE : Type := Shp × List (Option Nat)
def ge_0 : GeoE := (.inl 9, [some 2, some 3, none, none, none, none, none, none, none, none])
def ge_1 : GeoE := (.inl 1, [none, none, none, none, none])
def ge_2 : GeoE := (.inl 8, [none, none, none, none, none, none, none, none])
def ge_3 : GeoE := (.inl 8, [some 5, some 6, some 7, some 8, some 9, some 10, none, none])
def ge_4 : GeoE := (.inr (.int, 12), [])
def ge_5 : GeoE := (.inr (.boolean, 12), [])
def ge_6 : GeoE := (.inl 9, [some 2, some 3, some 4, none, none, none, none, none, none, none])
def ge_7 : GeoE := (.inl 0, [none, none, none, none])
def ge_8 : GeoE := (.inl 0, [some 12, none, none, none])
def ge_9 : GeoE := (.inr (.array .int, 10), [some 13, some 14, some 15, some 16, some 17, some 18, some 19, some 20, some 21, some 22])
def ge_10 : GeoE := (.inr (.int, 30), [])
def ge_11 : GeoE := (.inl 9, [some 2, some 3, some 4, some 11, none, none, none, none, none, none])
def ge_12 : GeoE := (.inl 2, [none, none, none, none, none, none, none, none, none, none, none, none, none, none])
def ge_13 : GeoE := (.inl 2, [some 24, none, none, none, none, none, none, none, none, some 25, none, some 26, some 27, none])
def ge_14 : GeoE := (.inr (.byte, 160), [])
def ge_15 : GeoE := (.inr (.int, 24), [])
def ge_16 : GeoE := (.inr (.int, 4), [])
def ge_17 : GeoE := (.inl 9, [some 2, some 3, some 4, some 11, some 23, none, none, none, none, none])
def ge_18 : GeoE := (.inl 7, [none, none, none])
def ge_19 : GeoE := (.inl 7, [some 29, some 36, none])
def ge_20 : GeoE := (.inr (.array .int, 6), [some 30, some 31, some 32, some 33, some 34, some 35])
def ge_21 : GeoE := (.inr (.int, 6), [])
def ge_22 : GeoE := (.inl 9, [some 2, some 3, some 4, some 11, some 23, some 28, none, none, none, none])
def ge_23 : GeoE := (.inl 4, [none, none, none, none, none, none, none, none, none, none, none, none, none, none, none, none])
def ge_24 : GeoE := (.inl 4, [none, some 38, some 39, none, none, some 40, some 41, none, none, some 42, some 43, none, none, none, some 44, none])
def ge_25 : GeoE := (.inr (.int, 201), [])
def ge_26 : GeoE := (.inr (.int, 32), [])
def ge_27 : GeoE := (.inr (.int, 5), [])
def ge_28 : GeoE := (.inl 9, [some 2, some 3, some 4, some 11, some 23, some 28, some 37, none, none, none])
def ge_29 : GeoE := (.inl 6, [none, none, none, none, none, none, none, none])
def ge_30 : GeoE := (.inl 6, [some 46, some 47, none, some 48, none, some 49, none, none])
def ge_31 : GeoE := (.inl 9, [some 2, some 3, some 4, some 11, some 23, some 28, some 37, some 45, none, none])
def ge_32 : GeoE := (.inl 3, [none, none, none, none, none, none, none, none, none, none, none])
def ge_33 : GeoE := (.inl 3, [some 51, some 52, none, some 53, some 54, none, none, none, none, none, none])
def ge_34 : GeoE := (.inl 9, [some 2, some 3, some 4, some 11, some 23, some 28, some 37, some 45, some 50, none])
def ge_35 : GeoE := (.inl 5, [none, none, none])
def ge_36 : GeoE := (.inl 5, [some 56, some 61, some 62])
def ge_37 : GeoE := (.inr (.array .int, 4), [some 57, some 58, some 59, some 60])
def ge_38 : GeoE := (.inr (.int, 60), [])
def ge_39 : GeoE := (.inl 9, [some 2, some 3, some 4, some 11, some 23, some 28, some 37, some 45, some 50, some 55])
def ge_40 : GeoE := (.inl 10, [none, none, none, none, none, none, none, none, none, none, none, none, none, none, none, none, none, none, none, none, none, none, none, none, none, none, none, none, none, none, none, none, none, none, none, none, none, none, none, none, none, none, none, none, none, none, none, none, none, none, none, none, none, none, none])
def ge_41 : GeoE := (.inl 10, [none, none, none, none, none, none, some 64, some 65, some 66, some 67, some 68, some 69, some 70, none, some 71, some 72, none, none, none, none, none, none, none, none, some 73, some 74, some 75, none, none, some 76, some 77, none, some 78, some 79, some 80, none, none, none, some 81, some 82, some 83, some 84, some 85, some 86, some 87, none, some 88, some 89, none, some 90, some 91, none, some 92, some 93, some 94])
def ge_42 : GeoE := (.inr (.int, 420), [])
def ge_43 : GeoE := (.inr (.int, 160), [])
def ge_44 : GeoE := (.inr (.int, 144), [])
def ge_45 : GeoE := (.inr (.int, 64), [])
def ge_46 : GeoE := (.inr (.int, 45225), [])
def ge_47 : GeoE := (.inr (.int, 4096), [])
def ge_48 : GeoE := (.inr (.boolean, 45225), [])
def ge_49 : GeoE := (.inr (.int, 240), [])
def ge_50 : GeoE := (.inl 10, [none, none, none, none, none, none, some 64, none, none, none, none, none, none, none, none, none, none, none, none, none, none, none, none, none, none, none, none, none, none, none, none, none, none, none, none, none, none, none, none, none, none, none, none, none, none, none, none, none, none, none, none, none, none, none, none])
def ge_51 : GeoE := (.inl 10, [none, none, none, none, none, none, some 64, some 65, none, none, none, none, none, none, none, none, none, none, none, none, none, none, none, none, none, none, none, none, none, none, none, none, none, none, none, none, none, none, none, none, none, none, none, none, none, none, none, none, none, none, none, none, none, none, none])
def ge_52 : GeoE := (.inl 10, [none, none, none, none, none, none, some 64, some 65, some 66, none, none, none, none, none, none, none, none, none, none, none, none, none, none, none, none, none, none, none, none, none, none, none, none, none, none, none, none, none, none, none, none, none, none, none, none, none, none, none, none, none, none, none, none, none, none])
def ge_53 : GeoE := (.inl 10, [none, none, none, none, none, none, some 64, some 65, some 66, some 67, none, none, none, none, none, none, none, none, none, none, none, none, none, none, none, none, none, none, none, none, none, none, none, none, none, none, none, none, none, none, none, none, none, none, none, none, none, none, none, none, none, none, none, none, none])
def ge_54 : GeoE := (.inl 10, [none, none, none, none, none, none, some 64, some 65, some 66, some 67, some 68, none, none, none, none, none, none, none, none, none, none, none, none, none, none, none, none, none, none, none, none, none, none, none, none, none, none, none, none, none, none, none, none, none, none, none, none, none, none, none, none, none, none, none, none])
def ge_55 : GeoE := (.inl 10, [none, none, none, none, none, none, some 64, some 65, some 66, some 67, some 68, some 69, none, none, none, none, none, none, none, none, none, none, none, none, none, none, none, none, none, none, none, none, none, none, none, none, none, none, none, none, none, none, none, none, none, none, none, none, none, none, none, none, none, none, none])
def ge_56 : GeoE := (.inl 10, [none, none, none, none, none, none, some 64, some 65, some 66, some 67, some 68, some 69, some 70, none, none, none, none, none, none, none, none, none, none, none, none, none, none, none, none, none, none, none, none, none, none, none, none, none, none, none, none, none, none, none, none, none, none, none, none, none, none, none, none, none, none])
def ge_57 : GeoE := (.inl 10, [none, none, none, none, none, none, some 64, some 65, some 66, some 67, some 68, some 69, some 70, none, some 71, none, none, none, none, none, none, none, none, none, none, none, none, none, none, none, none, none, none, none, none, none, none, none, none, none, none, none, none, none, none, none, none, none, none, none, none, none, none, none, none])
def ge_58 : GeoE := (.inl 10, [none, none, none, none, none, none, some 64, some 65, some 66, some 67, some 68, some 69, some 70, none, some 71, some 72, none, none, none, none, none, none, none, none, none, none, none, none, none, none, none, none, none, none, none, none, none, none, none, none, none, none, none, none, none, none, none, none, none, none, none, none, none, none, none])
def ge_59 : GeoE := (.inl 10, [none, none, none, none, none, none, some 64, some 65, some 66, some 67, some 68, some 69, some 70, none, some 71, some 72, none, none, none, none, none, none, none, none, some 73, none, none, none, none, none, none, none, none, none, none, none, none, none, none, none, none, none, none, none, none, none, none, none, none, none, none, none, none, none, none])
def ge_60 : GeoE := (.inl 10, [none, none, none, none, none, none, some 64, some 65, some 66, some 67, some 68, some 69, some 70, none, some 71, some 72, none, none, none, none, none, none, none, none, some 73, some 74, none, none, none, none, none, none, none, none, none, none, none, none, none, none, none, none, none, none, none, none, none, none, none, none, none, none, none, none, none])
def ge_61 : GeoE := (.inl 10, [none, none, none, none, none, none, some 64, some 65, some 66, some 67, some 68, some 69, some 70, none, some 71, some 72, none, none, none, none, none, none, none, none, some 73, some 74, some 75, none, none, none, none, none, none, none, none, none, none, none, none, none, none, none, none, none, none, none, none, none, none, none, none, none, none, none, none])
def ge_62 : GeoE := (.inl 10, [none, none, none, none, none, none, some 64, some 65, some 66, some 67, some 68, some 69, some 70, none, some 71, some 72, none, none, none, none, none, none, none, none, some 73, some 74, some 75, none, none, some 76, none, none, none, none, none, none, none, none, none, none, none, none, none, none, none, none, none, none, none, none, none, none, none, none, none])
def ge_63 : GeoE := (.inl 10, [none, none, none, none, none, none, some 64, some 65, some 66, some 67, some 68, some 69, some 70, none, some 71, some 72, none, none, none, none, none, none, none, none, some 73, some 74, some 75, none, none, some 76, some 77, none, none, none, none, none, none, none, none, none, none, none, none, none, none, none, none, none, none, none, none, none, none, none, none])
def ge_64 : GeoE := (.inl 10, [none, none, none, none, none, none, some 64, some 65, some 66, some 67, some 68, some 69, some 70, none, some 71, some 72, none, none, none, none, none, none, none, none, some 73, some 74, some 75, none, none, some 76, some 77, none, some 78, none, none, none, none, none, none, none, none, none, none, none, none, none, none, none, none, none, none, none, none, none, none])
def ge_65 : GeoE := (.inl 10, [none, none, none, none, none, none, some 64, some 65, some 66, some 67, some 68, some 69, some 70, none, some 71, some 72, none, none, none, none, none, none, none, none, some 73, some 74, some 75, none, none, some 76, some 77, none, some 78, some 79, none, none, none, none, none, none, none, none, none, none, none, none, none, none, none, none, none, none, none, none, none])
def ge_66 : GeoE := (.inl 10, [none, none, none, none, none, none, some 64, some 65, some 66, some 67, some 68, some 69, some 70, none, some 71, some 72, none, none, none, none, none, none, none, none, some 73, some 74, some 75, none, none, some 76, some 77, none, some 78, some 79, some 80, none, none, none, none, none, none, none, none, none, none, none, none, none, none, none, none, none, none, none, none])
def ge_67 : GeoE := (.inl 10, [none, none, none, none, none, none, some 64, some 65, some 66, some 67, some 68, some 69, some 70, none, some 71, some 72, none, none, none, none, none, none, none, none, some 73, some 74, some 75, none, none, some 76, some 77, none, some 78, some 79, some 80, none, none, none, some 81, none, none, none, none, none, none, none, none, none, none, none, none, none, none, none, none])
def ge_68 : GeoE := (.inl 10, [none, none, none, none, none, none, some 64, some 65, some 66, some 67, some 68, some 69, some 70, none, some 71, some 72, none, none, none, none, none, none, none, none, some 73, some 74, some 75, none, none, some 76, some 77, none, some 78, some 79, some 80, none, none, none, some 81, some 82, none, none, none, none, none, none, none, none, none, none, none, none, none, none, none])
def ge_69 : GeoE := (.inl 10, [none, none, none, none, none, none, some 64, some 65, some 66, some 67, some 68, some 69, some 70, none, some 71, some 72, none, none, none, none, none, none, none, none, some 73, some 74, some 75, none, none, some 76, some 77, none, some 78, some 79, some 80, none, none, none, some 81, some 82, some 83, none, none, none, none, none, none, none, none, none, none, none, none, none, none])
def ge_70 : GeoE := (.inl 10, [none, none, none, none, none, none, some 64, some 65, some 66, some 67, some 68, some 69, some 70, none, some 71, some 72, none, none, none, none, none, none, none, none, some 73, some 74, some 75, none, none, some 76, some 77, none, some 78, some 79, some 80, none, none, none, some 81, some 82, some 83, some 84, none, none, none, none, none, none, none, none, none, none, none, none, none])
def ge_71 : GeoE := (.inl 10, [none, none, none, none, none, none, some 64, some 65, some 66, some 67, some 68, some 69, some 70, none, some 71, some 72, none, none, none, none, none, none, none, none, some 73, some 74, some 75, none, none, some 76, some 77, none, some 78, some 79, some 80, none, none, none, some 81, some 82, some 83, some 84, some 85, none, none, none, none, none, none, none, none, none, none, none, none])
def ge_72 : GeoE := (.inl 10, [none, none, none, none, none, none, some 64, some 65, some 66, some 67, some 68, some 69, some 70, none, some 71, some 72, none, none, none, none, none, none, none, none, some 73, some 74, some 75, none, none, some 76, some 77, none, some 78, some 79, some 80, none, none, none, some 81, some 82, some 83, some 84, some 85, some 86, none, none, none, none, none, none, none, none, none, none, none])
def ge_73 : GeoE := (.inl 10, [none, none, none, none, none, none, some 64, some 65, some 66, some 67, some 68, some 69, some 70, none, some 71, some 72, none, none, none, none, none, none, none, none, some 73, some 74, some 75, none, none, some 76, some 77, none, some 78, some 79, some 80, none, none, none, some 81, some 82, some 83, some 84, some 85, some 86, some 87, none, none, none, none, none, none, none, none, none, none])
def ge_74 : GeoE := (.inl 10, [none, none, none, none, none, none, some 64, some 65, some 66, some 67, some 68, some 69, some 70, none, some 71, some 72, none, none, none, none, none, none, none, none, some 73, some 74, some 75, none, none, some 76, some 77, none, some 78, some 79, some 80, none, none, none, some 81, some 82, some 83, some 84, some 85, some 86, some 87, none, some 88, none, none, none, none, none, none, none, none])
def ge_75 : GeoE := (.inl 10, [none, none, none, none, none, none, some 64, some 65, some 66, some 67, some 68, some 69, some 70, none, some 71, some 72, none, none, none, none, none, none, none, none, some 73, some 74, some 75, none, none, some 76, some 77, none, some 78, some 79, some 80, none, none, none, some 81, some 82, some 83, some 84, some 85, some 86, some 87, none, some 88, some 89, none, none, none, none, none, none, none])
def ge_76 : GeoE := (.inl 10, [none, none, none, none, none, none, some 64, some 65, some 66, some 67, some 68, some 69, some 70, none, some 71, some 72, none, none, none, none, none, none, none, none, some 73, some 74, some 75, none, none, some 76, some 77, none, some 78, some 79, some 80, none, none, none, some 81, some 82, some 83, some 84, some 85, some 86, some 87, none, some 88, some 89, none, some 90, none, none, none, none, none])
def ge_77 : GeoE := (.inl 10, [none, none, none, none, none, none, some 64, some 65, some 66, some 67, some 68, some 69, some 70, none, some 71, some 72, none, none, none, none, none, none, none, none, some 73, some 74, some 75, none, none, some 76, some 77, none, some 78, some 79, some 80, none, none, none, some 81, some 82, some 83, some 84, some 85, some 86, some 87, none, some 88, some 89, none, some 90, some 91, none, none, none, none])
def ge_78 : GeoE := (.inl 10, [none, none, none, none, none, none, some 64, some 65, some 66, some 67, some 68, some 69, some 70, none, some 71, some 72, none, none, none, none, none, none, none, none, some 73, some 74, some 75, none, none, some 76, some 77, none, some 78, some 79, some 80, none, none, none, some 81, some 82, some 83, some 84, some 85, some 86, some 87, none, some 88, some 89, none, some 90, some 91, none, some 92, none, none])
def ge_79 : GeoE := (.inl 10, [none, none, none, none, none, none, some 64, some 65, some 66, some 67, some 68, some 69, some 70, none, some 71, some 72, none, none, none, none, none, none, none, none, some 73, some 74, some 75, none, none, some 76, some 77, none, some 78, some 79, some 80, none, none, none, some 81, some 82, some 83, some 84, some 85, some 86, some 87, none, some 88, some 89, none, some 90, some 91, none, some 92, some 93, none])
def ge_80 : GeoE := (.inl 9, [none, none, none, none, none, none, none, none, none, none])
def ge_81 : GeoE := (.inl 9, [some 2, none, none, none, none, none, none, none, none, none])
def ev_Z (n : Nat) (h : Hp) : Prop := ∀ i j, n ≤ i → h i j = 0
theorem ev_Z.set {n : Nat} {h : Hp} {a k : Nat} {x : Int32} (hz : ev_Z n h) (ha : Nat.blt a n = true) : ev_Z n (ev_set h a k x) := fun i j hi => by
  have := Nat.le_of_ble_eq_true ha
  rw [ev_set_ne (by omega)]
  exact hz i j hi
theorem ev_Z.up {n m : Nat} {h : Hp} (hz : ev_Z n h) (hm : Nat.ble n m = true) : ev_Z m h := fun i j hi => hz i j (Nat.le_trans (Nat.le_of_ble_eq_true hm) hi)
theorem ev_Z.at {n : Nat} {h : Hp} (hz : ev_Z n h) (i j : Nat) (hi : Nat.ble n i = true) : h i j = 0 := hz i j (Nat.le_of_ble_eq_true hi)
theorem ev_set_same {h : Hp} {a k : Nat} {x : Int32} (e : h a k = x) : ev_set h a k x = h := by
  funext i j
  unfold ev_set
  by_cases q : i = a ∧ j = k
  · rw [if_pos q, q.1, q.2, e]
  · rw [if_neg q]
theorem EvQ.geo {mi : MI} {pc : Nat} {lo : List (Option Value)} {st : List Value} {G : Geo} {h : Hp} {kc ks : Nat} {Q : Pst} (G' : Geo) (e : G = G') (k : EvQ mi pc lo st G' h kc ks Q) : EvQ mi pc lo st G h kc ks Q := by rw [e]; exact k
theorem EvQ.hp {mi : MI} {pc : Nat} {lo : List (Option Value)} {st : List Value} {G : Geo} {h : Hp} {kc ks : Nat} {Q : Pst} (h' : Hp) (e : h = h') (k : EvQ mi pc lo st G h' kc ks Q) : EvQ mi pc lo st G h kc ks Q := by rw [e]; exact k
theorem EvQ.cs {mi : MI} {pc : Nat} {lo : List (Option Value)} {st : List Value} {G : Geo} {h : Hp} {kc ks : Nat} {Q : Pst} (kc' ks' : Nat) (e1 : kc = kc') (e2 : ks = ks') (k : EvQ mi pc lo st G h kc' ks' Q) : EvQ mi pc lo st G h kc ks Q := by rw [e1, e2]; exact k

def h_boil (h : Hp) (a : Nat) : Hp := ev_set (ev_set (ev_set (ev_set h a 0 100) a 1 1000) a 2 3) a 3 150
set_option maxRecDepth 100000 in
set_option maxHeartbeats 4000000 in
theorem c_Boiler_init (G : Geo) (h : Hp) (a : Nat) (ha : Nat.blt 0 a = true) (hz : ev_sh G a = some (.inl 1)) (h0 : h a 4 = 0) : EvU mi_X1_init [.ref a] G h (h_boil h a) := by
  refine EvU.of (lo := [some (.ref a)]) pf_X1_init ok_X1_init rfl rfl ?_
  refine ev_aload_n rfl rfl rfl ?_
  refine ev_obj rfl rfl oi_X1_1 oi_i oi_c rfl rfl ?_
  refine ev_aload_n rfl rfl rfl ?_
  refine ev_bipush (v := 100) rfl rfl (by decide) ?_
  refine ev_putI rfl rfl fl_X1_7 rfl rfl ha hz rfl ?_
  refine ev_aload_n rfl rfl rfl ?_
  refine ev_sipush (v := 1000) rfl rfl (by decide) ?_
  refine ev_putI rfl rfl fl_X1_13 rfl rfl ha hz rfl ?_
  refine ev_aload_n rfl rfl rfl ?_
  refine ev_iconst (v := 3) rfl rfl (by decide) ?_
  refine ev_putI rfl rfl fl_X1_16 rfl rfl ha hz rfl ?_
  refine ev_aload_n rfl rfl rfl ?_
  refine ev_sipush (v := 150) rfl rfl (by decide) ?_
  refine ev_putI rfl rfl fl_X1_19 rfl rfl ha hz rfl ?_
  refine ev_aload_n rfl rfl rfl ?_
  refine ev_iconst (v := 0) rfl rfl (by decide) ?_
  refine ev_putI rfl rfl fl_X1_22 rfl rfl ha hz rfl ?_
  exact ev_vret rfl rfl trivial (⟨rfl, rfl, ev_set_same (by simp [ev_set, h0])⟩)

def gb_4 (L : Nat) : Geo := List.cons (.inr (.int, L), []) [ge_0, ge_1, ge_1, ge_2]
def ga_4 (L : Nat) : Geo := List.cons (.inr (.int, L), []) [ge_0, ge_1, ge_1, ge_3, ge_4, ge_4, ge_4, ge_5, ge_4, ge_4]
def gb_11 (L : Nat) : Geo := List.cons (.inr (.int, L), []) [ge_6, ge_1, ge_1, ge_3, ge_4, ge_4, ge_4, ge_5, ge_4, ge_4, ge_7]
def ga_11 (L : Nat) : Geo := List.cons (.inr (.int, L), []) [ge_6, ge_1, ge_1, ge_3, ge_4, ge_4, ge_4, ge_5, ge_4, ge_4, ge_8, ge_9, ge_10, ge_10, ge_10, ge_10, ge_10, ge_10, ge_10, ge_10, ge_10, ge_10]
def gb_23 (L : Nat) : Geo := List.cons (.inr (.int, L), []) [ge_11, ge_1, ge_1, ge_3, ge_4, ge_4, ge_4, ge_5, ge_4, ge_4, ge_8, ge_9, ge_10, ge_10, ge_10, ge_10, ge_10, ge_10, ge_10, ge_10, ge_10, ge_10, ge_12]
def ga_23 (L : Nat) : Geo := List.cons (.inr (.int, L), []) [ge_11, ge_1, ge_1, ge_3, ge_4, ge_4, ge_4, ge_5, ge_4, ge_4, ge_8, ge_9, ge_10, ge_10, ge_10, ge_10, ge_10, ge_10, ge_10, ge_10, ge_10, ge_10, ge_13, ge_14, ge_15, ge_16, ge_16]
def gb_28 (L : Nat) : Geo := List.cons (.inr (.int, L), []) [ge_17, ge_1, ge_1, ge_3, ge_4, ge_4, ge_4, ge_5, ge_4, ge_4, ge_8, ge_9, ge_10, ge_10, ge_10, ge_10, ge_10, ge_10, ge_10, ge_10, ge_10, ge_10, ge_13, ge_14, ge_15, ge_16, ge_16, ge_18]
def ga_28 (L : Nat) : Geo := List.cons (.inr (.int, L), []) [ge_17, ge_1, ge_1, ge_3, ge_4, ge_4, ge_4, ge_5, ge_4, ge_4, ge_8, ge_9, ge_10, ge_10, ge_10, ge_10, ge_10, ge_10, ge_10, ge_10, ge_10, ge_10, ge_13, ge_14, ge_15, ge_16, ge_16, ge_19, ge_20, ge_15, ge_15, ge_15, ge_15, ge_15, ge_15, ge_21]
def gb_37 (L : Nat) : Geo := List.cons (.inr (.int, L), []) [ge_22, ge_1, ge_1, ge_3, ge_4, ge_4, ge_4, ge_5, ge_4, ge_4, ge_8, ge_9, ge_10, ge_10, ge_10, ge_10, ge_10, ge_10, ge_10, ge_10, ge_10, ge_10, ge_13, ge_14, ge_15, ge_16, ge_16, ge_19, ge_20, ge_15, ge_15, ge_15, ge_15, ge_15, ge_15, ge_21, ge_23]
def ga_37 (L : Nat) : Geo := List.cons (.inr (.int, L), []) [ge_22, ge_1, ge_1, ge_3, ge_4, ge_4, ge_4, ge_5, ge_4, ge_4, ge_8, ge_9, ge_10, ge_10, ge_10, ge_10, ge_10, ge_10, ge_10, ge_10, ge_10, ge_10, ge_13, ge_14, ge_15, ge_16, ge_16, ge_19, ge_20, ge_15, ge_15, ge_15, ge_15, ge_15, ge_15, ge_21, ge_24, ge_25, ge_15, ge_26, ge_26, ge_15, ge_15, ge_27]
def gb_45 (L : Nat) : Geo := List.cons (.inr (.int, L), []) [ge_28, ge_1, ge_1, ge_3, ge_4, ge_4, ge_4, ge_5, ge_4, ge_4, ge_8, ge_9, ge_10, ge_10, ge_10, ge_10, ge_10, ge_10, ge_10, ge_10, ge_10, ge_10, ge_13, ge_14, ge_15, ge_16, ge_16, ge_19, ge_20, ge_15, ge_15, ge_15, ge_15, ge_15, ge_15, ge_21, ge_24, ge_25, ge_15, ge_26, ge_26, ge_15, ge_15, ge_27, ge_29]
def ga_45 (L : Nat) : Geo := List.cons (.inr (.int, L), []) [ge_28, ge_1, ge_1, ge_3, ge_4, ge_4, ge_4, ge_5, ge_4, ge_4, ge_8, ge_9, ge_10, ge_10, ge_10, ge_10, ge_10, ge_10, ge_10, ge_10, ge_10, ge_10, ge_13, ge_14, ge_15, ge_16, ge_16, ge_19, ge_20, ge_15, ge_15, ge_15, ge_15, ge_15, ge_15, ge_21, ge_24, ge_25, ge_15, ge_26, ge_26, ge_15, ge_15, ge_27, ge_30, ge_15, ge_15, ge_4, ge_4]
def gb_50 (L : Nat) : Geo := List.cons (.inr (.int, L), []) [ge_31, ge_1, ge_1, ge_3, ge_4, ge_4, ge_4, ge_5, ge_4, ge_4, ge_8, ge_9, ge_10, ge_10, ge_10, ge_10, ge_10, ge_10, ge_10, ge_10, ge_10, ge_10, ge_13, ge_14, ge_15, ge_16, ge_16, ge_19, ge_20, ge_15, ge_15, ge_15, ge_15, ge_15, ge_15, ge_21, ge_24, ge_25, ge_15, ge_26, ge_26, ge_15, ge_15, ge_27, ge_30, ge_15, ge_15, ge_4, ge_4, ge_32]
def ga_50 (L : Nat) : Geo := List.cons (.inr (.int, L), []) [ge_31, ge_1, ge_1, ge_3, ge_4, ge_4, ge_4, ge_5, ge_4, ge_4, ge_8, ge_9, ge_10, ge_10, ge_10, ge_10, ge_10, ge_10, ge_10, ge_10, ge_10, ge_10, ge_13, ge_14, ge_15, ge_16, ge_16, ge_19, ge_20, ge_15, ge_15, ge_15, ge_15, ge_15, ge_15, ge_21, ge_24, ge_25, ge_15, ge_26, ge_26, ge_15, ge_15, ge_27, ge_30, ge_15, ge_15, ge_4, ge_4, ge_33, ge_16, ge_16, ge_21, ge_21]
def gb_55 (L : Nat) : Geo := List.cons (.inr (.int, L), []) [ge_34, ge_1, ge_1, ge_3, ge_4, ge_4, ge_4, ge_5, ge_4, ge_4, ge_8, ge_9, ge_10, ge_10, ge_10, ge_10, ge_10, ge_10, ge_10, ge_10, ge_10, ge_10, ge_13, ge_14, ge_15, ge_16, ge_16, ge_19, ge_20, ge_15, ge_15, ge_15, ge_15, ge_15, ge_15, ge_21, ge_24, ge_25, ge_15, ge_26, ge_26, ge_15, ge_15, ge_27, ge_30, ge_15, ge_15, ge_4, ge_4, ge_33, ge_16, ge_16, ge_21, ge_21, ge_35]
def ga_55 (L : Nat) : Geo := List.cons (.inr (.int, L), []) [ge_34, ge_1, ge_1, ge_3, ge_4, ge_4, ge_4, ge_5, ge_4, ge_4, ge_8, ge_9, ge_10, ge_10, ge_10, ge_10, ge_10, ge_10, ge_10, ge_10, ge_10, ge_10, ge_13, ge_14, ge_15, ge_16, ge_16, ge_19, ge_20, ge_15, ge_15, ge_15, ge_15, ge_15, ge_15, ge_21, ge_24, ge_25, ge_15, ge_26, ge_26, ge_15, ge_15, ge_27, ge_30, ge_15, ge_15, ge_4, ge_4, ge_33, ge_16, ge_16, ge_21, ge_21, ge_36, ge_37, ge_38, ge_38, ge_38, ge_38, ge_16, ge_16]
def gp_63 (L : Nat) : Geo := List.cons (.inr (.int, L), []) [ge_39, ge_1, ge_1, ge_3, ge_4, ge_4, ge_4, ge_5, ge_4, ge_4, ge_8, ge_9, ge_10, ge_10, ge_10, ge_10, ge_10, ge_10, ge_10, ge_10, ge_10, ge_10, ge_13, ge_14, ge_15, ge_16, ge_16, ge_19, ge_20, ge_15, ge_15, ge_15, ge_15, ge_15, ge_15, ge_21, ge_24, ge_25, ge_15, ge_26, ge_26, ge_15, ge_15, ge_27, ge_30, ge_15, ge_15, ge_4, ge_4, ge_33, ge_16, ge_16, ge_21, ge_21, ge_36, ge_37, ge_38, ge_38, ge_38, ge_38, ge_16, ge_16]
def gm_0 (L : Nat) : Geo := List.append (gp_63 L) [ge_40]
def gm_1 (L : Nat) : Geo := List.append (gp_63 L) [ge_50, ge_4]
def gm_2 (L : Nat) : Geo := List.append (gp_63 L) [ge_51, ge_4, ge_4]
def gm_3 (L : Nat) : Geo := List.append (gp_63 L) [ge_52, ge_4, ge_4, ge_4]
def gm_4 (L : Nat) : Geo := List.append (gp_63 L) [ge_53, ge_4, ge_4, ge_4, ge_5]
def gm_5 (L : Nat) : Geo := List.append (gp_63 L) [ge_54, ge_4, ge_4, ge_4, ge_5, ge_4]
def gm_6 (L : Nat) : Geo := List.append (gp_63 L) [ge_55, ge_4, ge_4, ge_4, ge_5, ge_4, ge_4]
def gm_7 (L : Nat) : Geo := List.append (gp_63 L) [ge_56, ge_4, ge_4, ge_4, ge_5, ge_4, ge_4, ge_5]
def gm_8 (L : Nat) : Geo := List.append (gp_63 L) [ge_57, ge_4, ge_4, ge_4, ge_5, ge_4, ge_4, ge_5, ge_42]
def gm_9 (L : Nat) : Geo := List.append (gp_63 L) [ge_58, ge_4, ge_4, ge_4, ge_5, ge_4, ge_4, ge_5, ge_42, ge_43]
def gm_10 (L : Nat) : Geo := List.append (gp_63 L) [ge_59, ge_4, ge_4, ge_4, ge_5, ge_4, ge_4, ge_5, ge_42, ge_43, ge_21]
def gm_11 (L : Nat) : Geo := List.append (gp_63 L) [ge_60, ge_4, ge_4, ge_4, ge_5, ge_4, ge_4, ge_5, ge_42, ge_43, ge_21, ge_44]
def gm_12 (L : Nat) : Geo := List.append (gp_63 L) [ge_61, ge_4, ge_4, ge_4, ge_5, ge_4, ge_4, ge_5, ge_42, ge_43, ge_21, ge_44, ge_45]
def gm_13 (L : Nat) : Geo := List.append (gp_63 L) [ge_62, ge_4, ge_4, ge_4, ge_5, ge_4, ge_4, ge_5, ge_42, ge_43, ge_21, ge_44, ge_45, ge_27]
def gm_14 (L : Nat) : Geo := List.append (gp_63 L) [ge_63, ge_4, ge_4, ge_4, ge_5, ge_4, ge_4, ge_5, ge_42, ge_43, ge_21, ge_44, ge_45, ge_27, ge_27]
def gm_15 (L : Nat) : Geo := List.append (gp_63 L) [ge_64, ge_4, ge_4, ge_4, ge_5, ge_4, ge_4, ge_5, ge_42, ge_43, ge_21, ge_44, ge_45, ge_27, ge_27, ge_46]
def gm_16 (L : Nat) : Geo := List.append (gp_63 L) [ge_65, ge_4, ge_4, ge_4, ge_5, ge_4, ge_4, ge_5, ge_42, ge_43, ge_21, ge_44, ge_45, ge_27, ge_27, ge_46, ge_15]
def gm_17 (L : Nat) : Geo := List.append (gp_63 L) [ge_66, ge_4, ge_4, ge_4, ge_5, ge_4, ge_4, ge_5, ge_42, ge_43, ge_21, ge_44, ge_45, ge_27, ge_27, ge_46, ge_15, ge_15]
def gm_18 (L : Nat) : Geo := List.append (gp_63 L) [ge_67, ge_4, ge_4, ge_4, ge_5, ge_4, ge_4, ge_5, ge_42, ge_43, ge_21, ge_44, ge_45, ge_27, ge_27, ge_46, ge_15, ge_15, ge_25]
def gm_19 (L : Nat) : Geo := List.append (gp_63 L) [ge_68, ge_4, ge_4, ge_4, ge_5, ge_4, ge_4, ge_5, ge_42, ge_43, ge_21, ge_44, ge_45, ge_27, ge_27, ge_46, ge_15, ge_15, ge_25, ge_47]
def gm_20 (L : Nat) : Geo := List.append (gp_63 L) [ge_69, ge_4, ge_4, ge_4, ge_5, ge_4, ge_4, ge_5, ge_42, ge_43, ge_21, ge_44, ge_45, ge_27, ge_27, ge_46, ge_15, ge_15, ge_25, ge_47, ge_47]
def gm_21 (L : Nat) : Geo := List.append (gp_63 L) [ge_70, ge_4, ge_4, ge_4, ge_5, ge_4, ge_4, ge_5, ge_42, ge_43, ge_21, ge_44, ge_45, ge_27, ge_27, ge_46, ge_15, ge_15, ge_25, ge_47, ge_47, ge_48]
def gm_22 (L : Nat) : Geo := List.append (gp_63 L) [ge_71, ge_4, ge_4, ge_4, ge_5, ge_4, ge_4, ge_5, ge_42, ge_43, ge_21, ge_44, ge_45, ge_27, ge_27, ge_46, ge_15, ge_15, ge_25, ge_47, ge_47, ge_48, ge_4]
def gm_23 (L : Nat) : Geo := List.append (gp_63 L) [ge_72, ge_4, ge_4, ge_4, ge_5, ge_4, ge_4, ge_5, ge_42, ge_43, ge_21, ge_44, ge_45, ge_27, ge_27, ge_46, ge_15, ge_15, ge_25, ge_47, ge_47, ge_48, ge_4, ge_5]
def gm_24 (L : Nat) : Geo := List.append (gp_63 L) [ge_73, ge_4, ge_4, ge_4, ge_5, ge_4, ge_4, ge_5, ge_42, ge_43, ge_21, ge_44, ge_45, ge_27, ge_27, ge_46, ge_15, ge_15, ge_25, ge_47, ge_47, ge_48, ge_4, ge_5, ge_4]
def gm_25 (L : Nat) : Geo := List.append (gp_63 L) [ge_74, ge_4, ge_4, ge_4, ge_5, ge_4, ge_4, ge_5, ge_42, ge_43, ge_21, ge_44, ge_45, ge_27, ge_27, ge_46, ge_15, ge_15, ge_25, ge_47, ge_47, ge_48, ge_4, ge_5, ge_4, ge_16]
def gm_26 (L : Nat) : Geo := List.append (gp_63 L) [ge_75, ge_4, ge_4, ge_4, ge_5, ge_4, ge_4, ge_5, ge_42, ge_43, ge_21, ge_44, ge_45, ge_27, ge_27, ge_46, ge_15, ge_15, ge_25, ge_47, ge_47, ge_48, ge_4, ge_5, ge_4, ge_16, ge_16]
def gm_27 (L : Nat) : Geo := List.append (gp_63 L) [ge_76, ge_4, ge_4, ge_4, ge_5, ge_4, ge_4, ge_5, ge_42, ge_43, ge_21, ge_44, ge_45, ge_27, ge_27, ge_46, ge_15, ge_15, ge_25, ge_47, ge_47, ge_48, ge_4, ge_5, ge_4, ge_16, ge_16, ge_21]
def gm_28 (L : Nat) : Geo := List.append (gp_63 L) [ge_77, ge_4, ge_4, ge_4, ge_5, ge_4, ge_4, ge_5, ge_42, ge_43, ge_21, ge_44, ge_45, ge_27, ge_27, ge_46, ge_15, ge_15, ge_25, ge_47, ge_47, ge_48, ge_4, ge_5, ge_4, ge_16, ge_16, ge_21, ge_21]
def gm_29 (L : Nat) : Geo := List.append (gp_63 L) [ge_78, ge_4, ge_4, ge_4, ge_5, ge_4, ge_4, ge_5, ge_42, ge_43, ge_21, ge_44, ge_45, ge_27, ge_27, ge_46, ge_15, ge_15, ge_25, ge_47, ge_47, ge_48, ge_4, ge_5, ge_4, ge_16, ge_16, ge_21, ge_21, ge_16]
def gm_30 (L : Nat) : Geo := List.append (gp_63 L) [ge_79, ge_4, ge_4, ge_4, ge_5, ge_4, ge_4, ge_5, ge_42, ge_43, ge_21, ge_44, ge_45, ge_27, ge_27, ge_46, ge_15, ge_15, ge_25, ge_47, ge_47, ge_48, ge_4, ge_5, ge_4, ge_16, ge_16, ge_21, ge_21, ge_16, ge_16]
def gm_31 (L : Nat) : Geo := List.append (gp_63 L) [ge_41, ge_4, ge_4, ge_4, ge_5, ge_4, ge_4, ge_5, ge_42, ge_43, ge_21, ge_44, ge_45, ge_27, ge_27, ge_46, ge_15, ge_15, ge_25, ge_47, ge_47, ge_48, ge_4, ge_5, ge_4, ge_16, ge_16, ge_21, ge_21, ge_16, ge_16, ge_49]
def h_Whistles (h : Hp) : Hp := h
set_option maxRecDepth 100000 in
set_option maxHeartbeats 4000000 in
theorem c_Whistles_init (L : Nat) (h : Hp) (hz : ev_Z 4 h) : EvM mi_X8_init [.ref 4] (gb_4 L) h 6 72 (fun v G' h' => v = none ∧ G' = ga_4 L ∧ h' = h_Whistles h) := by
  refine EvM.of2 (lo := [some (.ref 4)]) pf_X8_init ok_X8_init rfl rfl ?_
  refine ev_aload_n rfl rfl rfl ?_
  refine ev_obj rfl rfl oi_X8_3 oi_i oi_c rfl rfl ?_
  refine ev_aload_n rfl rfl rfl ?_
  refine ev_bipush (v := 12) rfl rfl (by decide) ?_
  refine ev_newa (N := 12) (kc := 5) (ks := 60) rfl rfl rfl ac_int ⟨rfl, rfl⟩ (by decide) (by decide) (by decide) rfl (fun j => ev_Z.at (hz.up (m := 5) rfl) 5 j rfl) ?_
  refine ev_putR rfl rfl fl_X8_9 (Or.inr ⟨rfl, _, rfl, rfl⟩) rfl rfl rfl rfl ?_
  refine ev_aload_n rfl rfl rfl ?_
  refine ev_bipush (v := 12) rfl rfl (by decide) ?_
  refine ev_newa (N := 12) (kc := 4) (ks := 48) rfl rfl rfl ac_int ⟨rfl, rfl⟩ (by decide) (by decide) (by decide) rfl (fun j => ev_Z.at (hz.up (m := 6) rfl) 6 j rfl) ?_
  refine ev_putR rfl rfl fl_X8_15 (Or.inr ⟨rfl, _, rfl, rfl⟩) rfl rfl rfl rfl ?_
  refine ev_aload_n rfl rfl rfl ?_
  refine ev_bipush (v := 12) rfl rfl (by decide) ?_
  refine ev_newa (N := 12) (kc := 3) (ks := 36) rfl rfl rfl ac_int ⟨rfl, rfl⟩ (by decide) (by decide) (by decide) rfl (fun j => ev_Z.at (hz.up (m := 7) rfl) 7 j rfl) ?_
  refine ev_putR rfl rfl fl_X8_18 (Or.inr ⟨rfl, _, rfl, rfl⟩) rfl rfl rfl rfl ?_
  refine ev_aload_n rfl rfl rfl ?_
  refine ev_bipush (v := 12) rfl rfl (by decide) ?_
  refine ev_newa (N := 12) (kc := 2) (ks := 24) rfl rfl rfl ac_boolean ⟨rfl, rfl⟩ (by decide) (by decide) (by decide) rfl (fun j => ev_Z.at (hz.up (m := 8) rfl) 8 j rfl) ?_
  refine ev_putR rfl rfl fl_X8_21 (Or.inr ⟨rfl, _, rfl, rfl⟩) rfl rfl rfl rfl ?_
  refine ev_aload_n rfl rfl rfl ?_
  refine ev_bipush (v := 12) rfl rfl (by decide) ?_
  refine ev_newa (N := 12) (kc := 1) (ks := 12) rfl rfl rfl ac_int ⟨rfl, rfl⟩ (by decide) (by decide) (by decide) rfl (fun j => ev_Z.at (hz.up (m := 9) rfl) 9 j rfl) ?_
  refine ev_putR rfl rfl fl_X8_25 (Or.inr ⟨rfl, _, rfl, rfl⟩) rfl rfl rfl rfl ?_
  refine ev_aload_n rfl rfl rfl ?_
  refine ev_bipush (v := 12) rfl rfl (by decide) ?_
  refine ev_newa (N := 12) (kc := 0) (ks := 0) rfl rfl rfl ac_int ⟨rfl, rfl⟩ (by decide) (by decide) (by decide) rfl (fun j => ev_Z.at (hz.up (m := 10) rfl) 10 j rfl) ?_
  refine ev_putR rfl rfl fl_X8_28 (Or.inr ⟨rfl, _, rfl, rfl⟩) rfl rfl rfl rfl ?_
  refine ev_aload_n rfl rfl rfl ?_
  refine ev_iconst (v := 0) rfl rfl (by decide) ?_
  refine ev_putI rfl rfl fl_X8_31 rfl rfl rfl rfl rfl ?_
  refine EvQ.hp _ (ev_set_same (by first | exact hz.at _ _ rfl | (simp [ev_set]; exact hz.at _ _ rfl))) ?_
  refine ev_aload_n rfl rfl rfl ?_
  refine ev_iconst (v := 0) rfl rfl (by decide) ?_
  refine ev_putI rfl rfl fl_X8_35 rfl rfl rfl rfl rfl ?_
  refine EvQ.hp _ (ev_set_same (by first | exact hz.at _ _ rfl | (simp [ev_set]; exact hz.at _ _ rfl))) ?_
  exact ev_vret rfl rfl trivial (⟨rfl, rfl, rfl⟩)

def h_Acts (h : Hp) : Hp := h
set_option maxRecDepth 100000 in
set_option maxHeartbeats 4000000 in
theorem c_Acts_init (L : Nat) (h : Hp) (hz : ev_Z 11 h) : EvM mi_X0_init [.ref 11] (gb_11 L) h 11 310 (fun v G' h' => v = none ∧ G' = ga_11 L ∧ h' = h_Acts h) := by
  refine EvM.of2 (lo := [some (.ref 11)]) pf_X0_init ok_X0_init rfl rfl ?_
  refine ev_aload_n rfl rfl rfl ?_
  refine ev_obj rfl rfl oi_X0_5 oi_i oi_c rfl rfl ?_
  refine ev_aload_n rfl rfl rfl ?_
  refine ev_bipush (v := 10) rfl rfl (by decide) ?_
  refine ev_bipush (v := 30) rfl rfl (by decide) ?_
  refine ev_mna (N := 10) (K := 30) (kc := 0) (ks := 0) rfl rfl ca_X0_11 ac_int (by decide) (by decide) (by decide) (by decide) (by decide) (by decide) rfl (hz.up (m := 12) rfl) ?_
  refine ev_putR rfl rfl fl_X0_13 (Or.inr ⟨rfl, _, rfl, rfl⟩) rfl rfl rfl rfl ?_
  refine ev_aload_n rfl rfl rfl ?_
  refine ev_iconst (v := 0) rfl rfl (by decide) ?_
  refine ev_putI rfl rfl fl_X0_16 rfl rfl rfl rfl rfl ?_
  refine EvQ.hp _ (ev_set_same (by first | exact hz.at _ _ rfl | (simp [ev_set]; exact hz.at _ _ rfl))) ?_
  refine ev_aload_n rfl rfl rfl ?_
  refine ev_iconst (v := 0) rfl rfl (by decide) ?_
  refine ev_putI rfl rfl fl_X0_20 rfl rfl rfl rfl rfl ?_
  refine EvQ.hp _ (ev_set_same (by first | exact hz.at _ _ rfl | (simp [ev_set]; exact hz.at _ _ rfl))) ?_
  refine ev_aload_n rfl rfl rfl ?_
  refine ev_iconst (v := 0) rfl rfl (by decide) ?_
  refine ev_putI rfl rfl fl_X0_23 rfl rfl rfl rfl rfl ?_
  refine EvQ.hp _ (ev_set_same (by first | exact hz.at _ _ rfl | (simp [ev_set]; exact hz.at _ _ rfl))) ?_
  exact ev_vret rfl rfl trivial (⟨rfl, rfl, rfl⟩)

def h_Reader (h : Hp) : Hp := ev_set h 23 6 (-1)
set_option maxRecDepth 100000 in
set_option maxHeartbeats 4000000 in
theorem c_Reader_init (L : Nat) (h : Hp) (hz : ev_Z 23 h) : EvM mi_X2_init [.ref 23] (gb_23 L) h 4 192 (fun v G' h' => v = none ∧ G' = ga_23 L ∧ h' = h_Reader h) := by
  refine EvM.of2 (lo := [some (.ref 23)]) pf_X2_init ok_X2_init rfl rfl ?_
  refine ev_aload_n rfl rfl rfl ?_
  refine ev_obj rfl rfl oi_X2_3 oi_i oi_c rfl rfl ?_
  refine ev_aload_n rfl rfl rfl ?_
  refine ev_sipush (v := 160) rfl rfl (by decide) ?_
  refine ev_newa (N := 160) (kc := 3) (ks := 32) rfl rfl rfl ac_byte ⟨rfl, rfl⟩ (by decide) (by decide) (by decide) rfl (fun j => ev_Z.at (hz.up (m := 24) rfl) 24 j rfl) ?_
  refine ev_putR rfl rfl fl_X2_11 (Or.inr ⟨rfl, _, rfl, rfl⟩) rfl rfl rfl rfl ?_
  refine ev_aload_n rfl rfl rfl ?_
  refine ev_iconst (v := 0) rfl rfl (by decide) ?_
  refine ev_putI rfl rfl fl_X2_15 rfl rfl rfl rfl rfl ?_
  refine EvQ.hp _ (ev_set_same (by first | exact hz.at _ _ rfl | (simp [ev_set]; exact hz.at _ _ rfl))) ?_
  refine ev_aload_n rfl rfl rfl ?_
  refine ev_iconst (v := 0) rfl rfl (by decide) ?_
  refine ev_putI rfl rfl fl_X2_19 rfl rfl rfl rfl rfl ?_
  refine EvQ.hp _ (ev_set_same (by first | exact hz.at _ _ rfl | (simp [ev_set]; exact hz.at _ _ rfl))) ?_
  refine ev_aload_n rfl rfl rfl ?_
  refine ev_iconst (v := 0) rfl rfl (by decide) ?_
  refine ev_putI rfl rfl fl_X2_22 rfl rfl rfl rfl rfl ?_
  refine EvQ.hp _ (ev_set_same (by first | exact hz.at _ _ rfl | (simp [ev_set]; exact hz.at _ _ rfl))) ?_
  refine ev_aload_n rfl rfl rfl ?_
  refine ev_iconst (v := 0) rfl rfl (by decide) ?_
  refine ev_putI rfl rfl fl_X2_25 rfl rfl rfl rfl rfl ?_
  refine EvQ.hp _ (ev_set_same (by first | exact hz.at _ _ rfl | (simp [ev_set]; exact hz.at _ _ rfl))) ?_
  refine ev_aload_n rfl rfl rfl ?_
  refine ev_iconst (v := 0) rfl rfl (by decide) ?_
  refine ev_putI rfl rfl fl_X2_28 rfl rfl rfl rfl rfl ?_
  refine EvQ.hp _ (ev_set_same (by first | exact hz.at _ _ rfl | (simp [ev_set]; exact hz.at _ _ rfl))) ?_
  refine ev_aload_n rfl rfl rfl ?_
  refine ev_iconst (v := (-1)) rfl rfl (by decide) ?_
  refine ev_putI rfl rfl fl_X2_31 rfl rfl rfl rfl rfl ?_
  refine ev_aload_n rfl rfl rfl ?_
  refine ev_iconst (v := 0) rfl rfl (by decide) ?_
  refine ev_putI rfl rfl fl_X2_34 rfl rfl rfl rfl rfl ?_
  refine EvQ.hp _ (ev_set_same (by first | exact hz.at _ _ rfl | (simp [ev_set]; exact hz.at _ _ rfl))) ?_
  refine ev_aload_n rfl rfl rfl ?_
  refine ev_iconst (v := 0) rfl rfl (by decide) ?_
  refine ev_putI rfl rfl fl_X2_37 rfl rfl rfl rfl rfl ?_
  refine EvQ.hp _ (ev_set_same (by first | exact hz.at _ _ rfl | (simp [ev_set]; exact hz.at _ _ rfl))) ?_
  refine ev_aload_n rfl rfl rfl ?_
  refine ev_bipush (v := 24) rfl rfl (by decide) ?_
  refine ev_newa (N := 24) (kc := 2) (ks := 8) rfl rfl rfl ac_int ⟨rfl, rfl⟩ (by decide) (by decide) (by decide) rfl (fun j => ev_Z.at ((hz.up (m := 25) rfl).set rfl) 25 j rfl) ?_
  refine ev_putR rfl rfl fl_X2_40 (Or.inr ⟨rfl, _, rfl, rfl⟩) rfl rfl rfl rfl ?_
  refine ev_aload_n rfl rfl rfl ?_
  refine ev_iconst (v := 0) rfl rfl (by decide) ?_
  refine ev_putI rfl rfl fl_X2_44 rfl rfl rfl rfl rfl ?_
  refine EvQ.hp _ (ev_set_same (by first | exact hz.at _ _ rfl | (simp [ev_set]; exact hz.at _ _ rfl))) ?_
  refine ev_aload_n rfl rfl rfl ?_
  refine ev_iconst (v := 4) rfl rfl (by decide) ?_
  refine ev_newa (N := 4) (kc := 1) (ks := 4) rfl rfl rfl ac_int ⟨rfl, rfl⟩ (by decide) (by decide) (by decide) rfl (fun j => ev_Z.at ((hz.up (m := 26) rfl).set rfl) 26 j rfl) ?_
  refine ev_putR rfl rfl fl_X2_47 (Or.inr ⟨rfl, _, rfl, rfl⟩) rfl rfl rfl rfl ?_
  refine ev_aload_n rfl rfl rfl ?_
  refine ev_iconst (v := 4) rfl rfl (by decide) ?_
  refine ev_newa (N := 4) (kc := 0) (ks := 0) rfl rfl rfl ac_int ⟨rfl, rfl⟩ (by decide) (by decide) (by decide) rfl (fun j => ev_Z.at ((hz.up (m := 27) rfl).set rfl) 27 j rfl) ?_
  refine ev_putR rfl rfl fl_X2_50 (Or.inr ⟨rfl, _, rfl, rfl⟩) rfl rfl rfl rfl ?_
  refine ev_aload_n rfl rfl rfl ?_
  refine ev_iconst (v := 0) rfl rfl (by decide) ?_
  refine ev_putI rfl rfl fl_X2_53 rfl rfl rfl rfl rfl ?_
  refine EvQ.hp _ (ev_set_same (by first | exact hz.at _ _ rfl | (simp [ev_set]; exact hz.at _ _ rfl))) ?_
  exact ev_vret rfl rfl trivial (⟨rfl, rfl, rfl⟩)

def h_Tunes (h : Hp) : Hp := h
set_option maxRecDepth 100000 in
set_option maxHeartbeats 4000000 in
theorem c_Tunes_init (L : Nat) (h : Hp) (hz : ev_Z 28 h) : EvM mi_X7_init [.ref 28] (gb_28 L) h 8 156 (fun v G' h' => v = none ∧ G' = ga_28 L ∧ h' = h_Tunes h) := by
  refine EvM.of2 (lo := [some (.ref 28)]) pf_X7_init ok_X7_init rfl rfl ?_
  refine ev_aload_n rfl rfl rfl ?_
  refine ev_obj rfl rfl oi_X7_3 oi_i oi_c rfl rfl ?_
  refine ev_aload_n rfl rfl rfl ?_
  refine ev_bipush (v := 6) rfl rfl (by decide) ?_
  refine ev_bipush (v := 24) rfl rfl (by decide) ?_
  refine ev_mna (N := 6) (K := 24) (kc := 1) (ks := 6) rfl rfl ca_X7_9 ac_int (by decide) (by decide) (by decide) (by decide) (by decide) (by decide) rfl (hz.up (m := 29) rfl) ?_
  refine ev_putR rfl rfl fl_X7_11 (Or.inr ⟨rfl, _, rfl, rfl⟩) rfl rfl rfl rfl ?_
  refine ev_aload_n rfl rfl rfl ?_
  refine ev_bipush (v := 6) rfl rfl (by decide) ?_
  refine ev_newa (N := 6) (kc := 0) (ks := 0) rfl rfl rfl ac_int ⟨rfl, rfl⟩ (by decide) (by decide) (by decide) rfl (fun j => ev_Z.at (hz.up (m := 36) rfl) 36 j rfl) ?_
  refine ev_putR rfl rfl fl_X7_16 (Or.inr ⟨rfl, _, rfl, rfl⟩) rfl rfl rfl rfl ?_
  refine ev_aload_n rfl rfl rfl ?_
  refine ev_iconst (v := 0) rfl rfl (by decide) ?_
  refine ev_putI rfl rfl fl_X7_20 rfl rfl rfl rfl rfl ?_
  refine EvQ.hp _ (ev_set_same (by first | exact hz.at _ _ rfl | (simp [ev_set]; exact hz.at _ _ rfl))) ?_
  exact ev_vret rfl rfl trivial (⟨rfl, rfl, rfl⟩)

def h_Setting (h : Hp) : Hp := h
set_option maxRecDepth 100000 in
set_option maxHeartbeats 4000000 in
theorem c_Setting_init (L : Nat) (h : Hp) (hz : ev_Z 37 h) : EvM mi_X4_init [.ref 37] (gb_37 L) h 7 342 (fun v G' h' => v = none ∧ G' = ga_37 L ∧ h' = h_Setting h) := by
  refine EvM.of2 (lo := [some (.ref 37)]) pf_X4_init ok_X4_init rfl rfl ?_
  refine ev_aload_n rfl rfl rfl ?_
  refine ev_obj rfl rfl oi_X4_3 oi_i oi_c rfl rfl ?_
  refine ev_aload_n rfl rfl rfl ?_
  refine ev_null rfl rfl ?_
  refine ev_putN rfl rfl fl_X4_9 (Or.inr ⟨rfl, _, rfl, rfl⟩) rfl rfl rfl rfl ?_
  refine ev_aload_n rfl rfl rfl ?_
  refine ev_sipush (v := 201) rfl rfl (by decide) ?_
  refine ev_newa (N := 201) (kc := 6) (ks := 141) rfl rfl rfl ac_int ⟨rfl, rfl⟩ (by decide) (by decide) (by decide) rfl (fun j => ev_Z.at (hz.up (m := 38) rfl) 38 j rfl) ?_
  refine ev_putR rfl rfl fl_X4_15 (Or.inr ⟨rfl, _, rfl, rfl⟩) rfl rfl rfl rfl ?_
  refine ev_aload_n rfl rfl rfl ?_
  refine ev_bipush (v := 24) rfl rfl (by decide) ?_
  refine ev_newa (N := 24) (kc := 5) (ks := 117) rfl rfl rfl ac_int ⟨rfl, rfl⟩ (by decide) (by decide) (by decide) rfl (fun j => ev_Z.at (hz.up (m := 39) rfl) 39 j rfl) ?_
  refine ev_putR rfl rfl fl_X4_18 (Or.inr ⟨rfl, _, rfl, rfl⟩) rfl rfl rfl rfl ?_
  refine ev_aload_n rfl rfl rfl ?_
  refine ev_iconst (v := 0) rfl rfl (by decide) ?_
  refine ev_putI rfl rfl fl_X4_21 rfl rfl rfl rfl rfl ?_
  refine EvQ.hp _ (ev_set_same (by first | exact hz.at _ _ rfl | (simp [ev_set]; exact hz.at _ _ rfl))) ?_
  refine ev_aload_n rfl rfl rfl ?_
  refine ev_iconst (v := 0) rfl rfl (by decide) ?_
  refine ev_putI rfl rfl fl_X4_25 rfl rfl rfl rfl rfl ?_
  refine EvQ.hp _ (ev_set_same (by first | exact hz.at _ _ rfl | (simp [ev_set]; exact hz.at _ _ rfl))) ?_
  refine ev_aload_n rfl rfl rfl ?_
  refine ev_bipush (v := 32) rfl rfl (by decide) ?_
  refine ev_newa (N := 32) (kc := 4) (ks := 85) rfl rfl rfl ac_int ⟨rfl, rfl⟩ (by decide) (by decide) (by decide) rfl (fun j => ev_Z.at (hz.up (m := 40) rfl) 40 j rfl) ?_
  refine ev_putR rfl rfl fl_X4_28 (Or.inr ⟨rfl, _, rfl, rfl⟩) rfl rfl rfl rfl ?_
  refine ev_aload_n rfl rfl rfl ?_
  refine ev_bipush (v := 32) rfl rfl (by decide) ?_
  refine ev_newa (N := 32) (kc := 3) (ks := 53) rfl rfl rfl ac_int ⟨rfl, rfl⟩ (by decide) (by decide) (by decide) rfl (fun j => ev_Z.at (hz.up (m := 41) rfl) 41 j rfl) ?_
  refine ev_putR rfl rfl fl_X4_31 (Or.inr ⟨rfl, _, rfl, rfl⟩) rfl rfl rfl rfl ?_
  refine ev_aload_n rfl rfl rfl ?_
  refine ev_iconst (v := 0) rfl rfl (by decide) ?_
  refine ev_putI rfl rfl fl_X4_34 rfl rfl rfl rfl rfl ?_
  refine EvQ.hp _ (ev_set_same (by first | exact hz.at _ _ rfl | (simp [ev_set]; exact hz.at _ _ rfl))) ?_
  refine ev_aload_n rfl rfl rfl ?_
  refine ev_iconst (v := 0) rfl rfl (by decide) ?_
  refine ev_putI rfl rfl fl_X4_37 rfl rfl rfl rfl rfl ?_
  refine EvQ.hp _ (ev_set_same (by first | exact hz.at _ _ rfl | (simp [ev_set]; exact hz.at _ _ rfl))) ?_
  refine ev_aload_n rfl rfl rfl ?_
  refine ev_bipush (v := 24) rfl rfl (by decide) ?_
  refine ev_newa (N := 24) (kc := 2) (ks := 29) rfl rfl rfl ac_int ⟨rfl, rfl⟩ (by decide) (by decide) (by decide) rfl (fun j => ev_Z.at (hz.up (m := 42) rfl) 42 j rfl) ?_
  refine ev_putR rfl rfl fl_X4_40 (Or.inr ⟨rfl, _, rfl, rfl⟩) rfl rfl rfl rfl ?_
  refine ev_aload_n rfl rfl rfl ?_
  refine ev_bipush (v := 24) rfl rfl (by decide) ?_
  refine ev_newa (N := 24) (kc := 1) (ks := 5) rfl rfl rfl ac_int ⟨rfl, rfl⟩ (by decide) (by decide) (by decide) rfl (fun j => ev_Z.at (hz.up (m := 43) rfl) 43 j rfl) ?_
  refine ev_putR rfl rfl fl_X4_43 (Or.inr ⟨rfl, _, rfl, rfl⟩) rfl rfl rfl rfl ?_
  refine ev_aload_n rfl rfl rfl ?_
  refine ev_iconst (v := 0) rfl rfl (by decide) ?_
  refine ev_putI rfl rfl fl_X4_46 rfl rfl rfl rfl rfl ?_
  refine EvQ.hp _ (ev_set_same (by first | exact hz.at _ _ rfl | (simp [ev_set]; exact hz.at _ _ rfl))) ?_
  refine ev_aload_n rfl rfl rfl ?_
  refine ev_iconst (v := 0) rfl rfl (by decide) ?_
  refine ev_putI rfl rfl fl_X4_49 rfl rfl rfl rfl rfl ?_
  refine EvQ.hp _ (ev_set_same (by first | exact hz.at _ _ rfl | (simp [ev_set]; exact hz.at _ _ rfl))) ?_
  refine ev_aload_n rfl rfl rfl ?_
  refine ev_iconst (v := 0) rfl rfl (by decide) ?_
  refine ev_putI rfl rfl fl_X4_52 rfl rfl rfl rfl rfl ?_
  refine EvQ.hp _ (ev_set_same (by first | exact hz.at _ _ rfl | (simp [ev_set]; exact hz.at _ _ rfl))) ?_
  refine ev_aload_n rfl rfl rfl ?_
  refine ev_iconst (v := 5) rfl rfl (by decide) ?_
  refine ev_newa (N := 5) (kc := 0) (ks := 0) rfl rfl rfl ac_int ⟨rfl, rfl⟩ (by decide) (by decide) (by decide) rfl (fun j => ev_Z.at (hz.up (m := 44) rfl) 44 j rfl) ?_
  refine ev_putR rfl rfl fl_X4_55 (Or.inr ⟨rfl, _, rfl, rfl⟩) rfl rfl rfl rfl ?_
  refine ev_aload_n rfl rfl rfl ?_
  refine ev_iconst (v := 0) rfl rfl (by decide) ?_
  refine ev_putZ rfl rfl fl_X4_58 rfl rfl rfl rfl rfl (by decide) ?_
  refine EvQ.hp _ (ev_set_same (by first | exact hz.at _ _ rfl | (simp [ev_set]; exact hz.at _ _ rfl))) ?_
  exact ev_vret rfl rfl trivial (⟨rfl, rfl, rfl⟩)

def h_Suspects (h : Hp) : Hp := ev_set h 45 7 (-1)
set_option maxRecDepth 100000 in
set_option maxHeartbeats 4000000 in
theorem c_Suspects_init (L : Nat) (h : Hp) (hz : ev_Z 45 h) : EvM mi_X6_init [.ref 45] (gb_45 L) h 4 72 (fun v G' h' => v = none ∧ G' = ga_45 L ∧ h' = h_Suspects h) := by
  refine EvM.of2 (lo := [some (.ref 45)]) pf_X6_init ok_X6_init rfl rfl ?_
  refine ev_aload_n rfl rfl rfl ?_
  refine ev_obj rfl rfl oi_X6_3 oi_i oi_c rfl rfl ?_
  refine ev_aload_n rfl rfl rfl ?_
  refine ev_bipush (v := 24) rfl rfl (by decide) ?_
  refine ev_newa (N := 24) (kc := 3) (ks := 48) rfl rfl rfl ac_int ⟨rfl, rfl⟩ (by decide) (by decide) (by decide) rfl (fun j => ev_Z.at (hz.up (m := 46) rfl) 46 j rfl) ?_
  refine ev_putR rfl rfl fl_X6_9 (Or.inr ⟨rfl, _, rfl, rfl⟩) rfl rfl rfl rfl ?_
  refine ev_aload_n rfl rfl rfl ?_
  refine ev_bipush (v := 24) rfl rfl (by decide) ?_
  refine ev_newa (N := 24) (kc := 2) (ks := 24) rfl rfl rfl ac_int ⟨rfl, rfl⟩ (by decide) (by decide) (by decide) rfl (fun j => ev_Z.at (hz.up (m := 47) rfl) 47 j rfl) ?_
  refine ev_putR rfl rfl fl_X6_15 (Or.inr ⟨rfl, _, rfl, rfl⟩) rfl rfl rfl rfl ?_
  refine ev_aload_n rfl rfl rfl ?_
  refine ev_iconst (v := 0) rfl rfl (by decide) ?_
  refine ev_putI rfl rfl fl_X6_18 rfl rfl rfl rfl rfl ?_
  refine EvQ.hp _ (ev_set_same (by first | exact hz.at _ _ rfl | (simp [ev_set]; exact hz.at _ _ rfl))) ?_
  refine ev_aload_n rfl rfl rfl ?_
  refine ev_bipush (v := 12) rfl rfl (by decide) ?_
  refine ev_newa (N := 12) (kc := 1) (ks := 12) rfl rfl rfl ac_int ⟨rfl, rfl⟩ (by decide) (by decide) (by decide) rfl (fun j => ev_Z.at (hz.up (m := 48) rfl) 48 j rfl) ?_
  refine ev_putR rfl rfl fl_X6_22 (Or.inr ⟨rfl, _, rfl, rfl⟩) rfl rfl rfl rfl ?_
  refine ev_aload_n rfl rfl rfl ?_
  refine ev_iconst (v := 0) rfl rfl (by decide) ?_
  refine ev_putI rfl rfl fl_X6_25 rfl rfl rfl rfl rfl ?_
  refine EvQ.hp _ (ev_set_same (by first | exact hz.at _ _ rfl | (simp [ev_set]; exact hz.at _ _ rfl))) ?_
  refine ev_aload_n rfl rfl rfl ?_
  refine ev_bipush (v := 12) rfl rfl (by decide) ?_
  refine ev_newa (N := 12) (kc := 0) (ks := 0) rfl rfl rfl ac_int ⟨rfl, rfl⟩ (by decide) (by decide) (by decide) rfl (fun j => ev_Z.at (hz.up (m := 49) rfl) 49 j rfl) ?_
  refine ev_putR rfl rfl fl_X6_28 (Or.inr ⟨rfl, _, rfl, rfl⟩) rfl rfl rfl rfl ?_
  refine ev_aload_n rfl rfl rfl ?_
  refine ev_iconst (v := 0) rfl rfl (by decide) ?_
  refine ev_putI rfl rfl fl_X6_31 rfl rfl rfl rfl rfl ?_
  refine EvQ.hp _ (ev_set_same (by first | exact hz.at _ _ rfl | (simp [ev_set]; exact hz.at _ _ rfl))) ?_
  refine ev_aload_n rfl rfl rfl ?_
  refine ev_iconst (v := (-1)) rfl rfl (by decide) ?_
  refine ev_putI rfl rfl fl_X6_34 rfl rfl rfl rfl rfl ?_
  exact ev_vret rfl rfl trivial (⟨rfl, rfl, rfl⟩)

def h_River (h : Hp) : Hp := ev_set (ev_set (ev_set h 50 6 10) 50 8 (-4)) 50 9 (-4)
set_option maxRecDepth 100000 in
set_option maxHeartbeats 4000000 in
theorem c_River_init (L : Nat) (h : Hp) (hz : ev_Z 50 h) : EvM mi_X3_init [.ref 50] (gb_50 L) h 4 20 (fun v G' h' => v = none ∧ G' = ga_50 L ∧ h' = h_River h) := by
  refine EvM.of2 (lo := [some (.ref 50)]) pf_X3_init ok_X3_init rfl rfl ?_
  refine ev_aload_n rfl rfl rfl ?_
  refine ev_obj rfl rfl oi_X3_3 oi_i oi_c rfl rfl ?_
  refine ev_aload_n rfl rfl rfl ?_
  refine ev_iconst (v := 4) rfl rfl (by decide) ?_
  refine ev_newa (N := 4) (kc := 3) (ks := 16) rfl rfl rfl ac_int ⟨rfl, rfl⟩ (by decide) (by decide) (by decide) rfl (fun j => ev_Z.at (hz.up (m := 51) rfl) 51 j rfl) ?_
  refine ev_putR rfl rfl fl_X3_11 (Or.inr ⟨rfl, _, rfl, rfl⟩) rfl rfl rfl rfl ?_
  refine ev_aload_n rfl rfl rfl ?_
  refine ev_iconst (v := 4) rfl rfl (by decide) ?_
  refine ev_newa (N := 4) (kc := 2) (ks := 12) rfl rfl rfl ac_int ⟨rfl, rfl⟩ (by decide) (by decide) (by decide) rfl (fun j => ev_Z.at (hz.up (m := 52) rfl) 52 j rfl) ?_
  refine ev_putR rfl rfl fl_X3_15 (Or.inr ⟨rfl, _, rfl, rfl⟩) rfl rfl rfl rfl ?_
  refine ev_aload_n rfl rfl rfl ?_
  refine ev_iconst (v := 0) rfl rfl (by decide) ?_
  refine ev_putI rfl rfl fl_X3_18 rfl rfl rfl rfl rfl ?_
  refine EvQ.hp _ (ev_set_same (by first | exact hz.at _ _ rfl | (simp [ev_set]; exact hz.at _ _ rfl))) ?_
  refine ev_aload_n rfl rfl rfl ?_
  refine ev_bipush (v := 6) rfl rfl (by decide) ?_
  refine ev_newa (N := 6) (kc := 1) (ks := 6) rfl rfl rfl ac_int ⟨rfl, rfl⟩ (by decide) (by decide) (by decide) rfl (fun j => ev_Z.at (hz.up (m := 53) rfl) 53 j rfl) ?_
  refine ev_putR rfl rfl fl_X3_22 (Or.inr ⟨rfl, _, rfl, rfl⟩) rfl rfl rfl rfl ?_
  refine ev_aload_n rfl rfl rfl ?_
  refine ev_bipush (v := 6) rfl rfl (by decide) ?_
  refine ev_newa (N := 6) (kc := 0) (ks := 0) rfl rfl rfl ac_int ⟨rfl, rfl⟩ (by decide) (by decide) (by decide) rfl (fun j => ev_Z.at (hz.up (m := 54) rfl) 54 j rfl) ?_
  refine ev_putR rfl rfl fl_X3_25 (Or.inr ⟨rfl, _, rfl, rfl⟩) rfl rfl rfl rfl ?_
  refine ev_aload_n rfl rfl rfl ?_
  refine ev_iconst (v := 0) rfl rfl (by decide) ?_
  refine ev_putI rfl rfl fl_X3_28 rfl rfl rfl rfl rfl ?_
  refine EvQ.hp _ (ev_set_same (by first | exact hz.at _ _ rfl | (simp [ev_set]; exact hz.at _ _ rfl))) ?_
  refine ev_aload_n rfl rfl rfl ?_
  refine ev_bipush (v := 10) rfl rfl (by decide) ?_
  refine ev_putI rfl rfl fl_X3_31 rfl rfl rfl rfl rfl ?_
  refine ev_aload_n rfl rfl rfl ?_
  refine ev_iconst (v := 0) rfl rfl (by decide) ?_
  refine ev_putI rfl rfl fl_X3_34 rfl rfl rfl rfl rfl ?_
  refine EvQ.hp _ (ev_set_same (by first | exact hz.at _ _ rfl | (simp [ev_set]; exact hz.at _ _ rfl))) ?_
  refine ev_aload_n rfl rfl rfl ?_
  refine ev_bipush (v := (-4)) rfl rfl (by decide) ?_
  refine ev_putI rfl rfl fl_X3_37 rfl rfl rfl rfl rfl ?_
  refine ev_aload_n rfl rfl rfl ?_
  refine ev_bipush (v := (-4)) rfl rfl (by decide) ?_
  refine ev_putI rfl rfl fl_X3_40 rfl rfl rfl rfl rfl ?_
  refine ev_aload_n rfl rfl rfl ?_
  refine ev_iconst (v := 0) rfl rfl (by decide) ?_
  refine ev_putI rfl rfl fl_X3_43 rfl rfl rfl rfl rfl ?_
  refine EvQ.hp _ (ev_set_same (by first | exact hz.at _ _ rfl | (simp [ev_set]; exact hz.at _ _ rfl))) ?_
  exact ev_vret rfl rfl trivial (⟨rfl, rfl, rfl⟩)

def h_Sheets (h : Hp) : Hp := ev_set (ev_set (ev_set (ev_set h 62 0 (-1)) 62 1 (-1)) 62 2 (-1)) 62 3 (-1)
set_option maxRecDepth 100000 in
set_option maxHeartbeats 4000000 in
theorem c_Sheets_init (L : Nat) (h : Hp) (hz : ev_Z 55 h) : EvM mi_X5_init [.ref 55] (gb_55 L) h 7 252 (fun v G' h' => v = none ∧ G' = ga_55 L ∧ h' = h_Sheets h) := by
  refine EvM.of2 (lo := [some (.ref 55)]) pf_X5_init ok_X5_init rfl rfl ?_
  refine ev_aload_n rfl rfl rfl ?_
  refine ev_obj rfl rfl oi_X5_1 oi_i oi_c rfl rfl ?_
  refine ev_aload_n rfl rfl rfl ?_
  refine ev_iconst (v := 4) rfl rfl (by decide) ?_
  refine ev_bipush (v := 60) rfl rfl (by decide) ?_
  refine ev_mna (N := 4) (K := 60) (kc := 2) (ks := 8) rfl rfl ca_X5_9 ac_int (by decide) (by decide) (by decide) (by decide) (by decide) (by decide) rfl (hz.up (m := 56) rfl) ?_
  refine ev_putR rfl rfl fl_X5_11 (Or.inr ⟨rfl, _, rfl, rfl⟩) rfl rfl rfl rfl ?_
  refine ev_aload_n rfl rfl rfl ?_
  refine ev_iconst (v := 4) rfl rfl (by decide) ?_
  refine ev_newa (N := 4) (kc := 1) (ks := 4) rfl rfl rfl ac_int ⟨rfl, rfl⟩ (by decide) (by decide) (by decide) rfl (fun j => ev_Z.at (hz.up (m := 61) rfl) 61 j rfl) ?_
  refine ev_putR rfl rfl fl_X5_14 (Or.inr ⟨rfl, _, rfl, rfl⟩) rfl rfl rfl rfl ?_
  refine ev_aload_n rfl rfl rfl ?_
  refine ev_iconst (v := 4) rfl rfl (by decide) ?_
  refine ev_newa (N := 4) (kc := 0) (ks := 0) rfl rfl rfl ac_int ⟨rfl, rfl⟩ (by decide) (by decide) (by decide) rfl (fun j => ev_Z.at (hz.up (m := 62) rfl) 62 j rfl) ?_
  refine ev_dup rfl rfl rfl ?_
  refine ev_iconst (v := 0) rfl rfl (by decide) ?_
  refine ev_iconst (v := (-1)) rfl rfl (by decide) ?_
  refine ev_iast (j := 0) rfl rfl rfl rfl (by unfold vp_in; decide) (by decide) ?_
  refine ev_dup rfl rfl rfl ?_
  refine ev_iconst (v := 1) rfl rfl (by decide) ?_
  refine ev_iconst (v := (-1)) rfl rfl (by decide) ?_
  refine ev_iast (j := 1) rfl rfl rfl rfl (by unfold vp_in; decide) (by decide) ?_
  refine ev_dup rfl rfl rfl ?_
  refine ev_iconst (v := 2) rfl rfl (by decide) ?_
  refine ev_iconst (v := (-1)) rfl rfl (by decide) ?_
  refine ev_iast (j := 2) rfl rfl rfl rfl (by unfold vp_in; decide) (by decide) ?_
  refine ev_dup rfl rfl rfl ?_
  refine ev_iconst (v := 3) rfl rfl (by decide) ?_
  refine ev_iconst (v := (-1)) rfl rfl (by decide) ?_
  refine ev_iast (j := 3) rfl rfl rfl rfl (by unfold vp_in; decide) (by decide) ?_
  refine ev_putR rfl rfl fl_X5_18 (Or.inr ⟨rfl, _, rfl, rfl⟩) rfl rfl rfl rfl ?_
  exact ev_vret rfl rfl trivial (⟨rfl, rfl, rfl⟩)

def h_Model (h : Hp) : Hp := ev_set (ev_set (ev_set (ev_set (ev_set (ev_set (ev_set (ev_set (ev_set h 63 0 100) 63 1 1000) 63 2 3) 63 3 150) 63 51 10) 92 0 (-4)) 92 1 (-4)) 92 2 (-4)) 92 3 (-4)
set_option maxRecDepth 100000 in
set_option maxHeartbeats 4000000 in
theorem c_Model_init (L : Nat) (h : Hp) (hz : ev_Z 63 h) : EvM mi_X10_init [.ref 63] (gm_0 L) h 31 100083 (fun v G' h' => v = none ∧ G' = gm_31 L ∧ h' = h_Model h) := by
  refine EvM.of2 (lo := [some (.ref 63), none]) pf_X10_init ok_X10_init rfl rfl ?_
  refine ev_aload_n rfl rfl rfl ?_
  refine ev_obj rfl rfl oi_X10_1 oi_i oi_c rfl rfl ?_
  refine ev_aload_n rfl rfl rfl ?_
  refine ev_bipush (v := 100) rfl rfl (by decide) ?_
  refine ev_putI rfl rfl fl_X10_7 rfl rfl rfl rfl rfl ?_
  refine ev_aload_n rfl rfl rfl ?_
  refine ev_sipush (v := 1000) rfl rfl (by decide) ?_
  refine ev_putI rfl rfl fl_X10_13 rfl rfl rfl rfl rfl ?_
  refine ev_aload_n rfl rfl rfl ?_
  refine ev_iconst (v := 3) rfl rfl (by decide) ?_
  refine ev_putI rfl rfl fl_X10_16 rfl rfl rfl rfl rfl ?_
  refine ev_aload_n rfl rfl rfl ?_
  refine ev_sipush (v := 150) rfl rfl (by decide) ?_
  refine ev_putI rfl rfl fl_X10_19 rfl rfl rfl rfl rfl ?_
  refine ev_aload_n rfl rfl rfl ?_
  refine ev_bipush (v := 12) rfl rfl (by decide) ?_
  refine ev_newa (N := 12) (kc := 30) (ks := 100071) rfl rfl rfl ac_int ⟨rfl, rfl⟩ (by decide) (by decide) (by decide) rfl (fun j => ev_Z.at (((((hz.up (m := 64) rfl).set rfl).set rfl).set rfl).set rfl) 64 j rfl) ?_
  refine ev_putR rfl rfl fl_X10_22 (Or.inr ⟨rfl, _, rfl, rfl⟩) rfl rfl rfl rfl ?_
  refine EvQ.geo (gm_1 L) rfl ?_
  refine ev_aload_n rfl rfl rfl ?_
  refine ev_bipush (v := 12) rfl rfl (by decide) ?_
  refine ev_newa (N := 12) (kc := 29) (ks := 100059) rfl rfl rfl ac_int ⟨rfl, rfl⟩ (by decide) (by decide) (by decide) rfl (fun j => ev_Z.at (((((hz.up (m := 65) rfl).set rfl).set rfl).set rfl).set rfl) 65 j rfl) ?_
  refine ev_putR rfl rfl fl_X10_26 (Or.inr ⟨rfl, _, rfl, rfl⟩) rfl rfl rfl rfl ?_
  refine EvQ.geo (gm_2 L) rfl ?_
  refine ev_aload_n rfl rfl rfl ?_
  refine ev_bipush (v := 12) rfl rfl (by decide) ?_
  refine ev_newa (N := 12) (kc := 28) (ks := 100047) rfl rfl rfl ac_int ⟨rfl, rfl⟩ (by decide) (by decide) (by decide) rfl (fun j => ev_Z.at (((((hz.up (m := 66) rfl).set rfl).set rfl).set rfl).set rfl) 66 j rfl) ?_
  refine ev_putR rfl rfl fl_X10_29 (Or.inr ⟨rfl, _, rfl, rfl⟩) rfl rfl rfl rfl ?_
  refine EvQ.geo (gm_3 L) rfl ?_
  refine ev_aload_n rfl rfl rfl ?_
  refine ev_bipush (v := 12) rfl rfl (by decide) ?_
  refine ev_newa (N := 12) (kc := 27) (ks := 100035) rfl rfl rfl ac_boolean ⟨rfl, rfl⟩ (by decide) (by decide) (by decide) rfl (fun j => ev_Z.at (((((hz.up (m := 67) rfl).set rfl).set rfl).set rfl).set rfl) 67 j rfl) ?_
  refine ev_putR rfl rfl fl_X10_32 (Or.inr ⟨rfl, _, rfl, rfl⟩) rfl rfl rfl rfl ?_
  refine EvQ.geo (gm_4 L) rfl ?_
  refine ev_aload_n rfl rfl rfl ?_
  refine ev_bipush (v := 12) rfl rfl (by decide) ?_
  refine ev_newa (N := 12) (kc := 26) (ks := 100023) rfl rfl rfl ac_int ⟨rfl, rfl⟩ (by decide) (by decide) (by decide) rfl (fun j => ev_Z.at (((((hz.up (m := 68) rfl).set rfl).set rfl).set rfl).set rfl) 68 j rfl) ?_
  refine ev_putR rfl rfl fl_X10_36 (Or.inr ⟨rfl, _, rfl, rfl⟩) rfl rfl rfl rfl ?_
  refine EvQ.geo (gm_5 L) rfl ?_
  refine ev_aload_n rfl rfl rfl ?_
  refine ev_bipush (v := 12) rfl rfl (by decide) ?_
  refine ev_newa (N := 12) (kc := 25) (ks := 100011) rfl rfl rfl ac_int ⟨rfl, rfl⟩ (by decide) (by decide) (by decide) rfl (fun j => ev_Z.at (((((hz.up (m := 69) rfl).set rfl).set rfl).set rfl).set rfl) 69 j rfl) ?_
  refine ev_putR rfl rfl fl_X10_39 (Or.inr ⟨rfl, _, rfl, rfl⟩) rfl rfl rfl rfl ?_
  refine EvQ.geo (gm_6 L) rfl ?_
  refine ev_aload_n rfl rfl rfl ?_
  refine ev_bipush (v := 12) rfl rfl (by decide) ?_
  refine ev_newa (N := 12) (kc := 24) (ks := 99999) rfl rfl rfl ac_boolean ⟨rfl, rfl⟩ (by decide) (by decide) (by decide) rfl (fun j => ev_Z.at (((((hz.up (m := 70) rfl).set rfl).set rfl).set rfl).set rfl) 70 j rfl) ?_
  refine ev_putR rfl rfl fl_X10_42 (Or.inr ⟨rfl, _, rfl, rfl⟩) rfl rfl rfl rfl ?_
  refine EvQ.geo (gm_7 L) rfl ?_
  refine ev_aload_n rfl rfl rfl ?_
  refine ev_sipush (v := 420) rfl rfl (by decide) ?_
  refine ev_newa (N := 420) (kc := 23) (ks := 99579) rfl rfl rfl ac_int ⟨rfl, rfl⟩ (by decide) (by decide) (by decide) rfl (fun j => ev_Z.at (((((hz.up (m := 71) rfl).set rfl).set rfl).set rfl).set rfl) 71 j rfl) ?_
  refine ev_putR rfl rfl fl_X10_45 (Or.inr ⟨rfl, _, rfl, rfl⟩) rfl rfl rfl rfl ?_
  refine EvQ.geo (gm_8 L) rfl ?_
  refine ev_aload_n rfl rfl rfl ?_
  refine ev_sipush (v := 160) rfl rfl (by decide) ?_
  refine ev_newa (N := 160) (kc := 22) (ks := 99419) rfl rfl rfl ac_int ⟨rfl, rfl⟩ (by decide) (by decide) (by decide) rfl (fun j => ev_Z.at (((((hz.up (m := 72) rfl).set rfl).set rfl).set rfl).set rfl) 72 j rfl) ?_
  refine ev_putR rfl rfl fl_X10_48 (Or.inr ⟨rfl, _, rfl, rfl⟩) rfl rfl rfl rfl ?_
  refine EvQ.geo (gm_9 L) rfl ?_
  refine ev_aload_n rfl rfl rfl ?_
  refine ev_bipush (v := 6) rfl rfl (by decide) ?_
  refine ev_newa (N := 6) (kc := 21) (ks := 99413) rfl rfl rfl ac_int ⟨rfl, rfl⟩ (by decide) (by decide) (by decide) rfl (fun j => ev_Z.at (((((hz.up (m := 73) rfl).set rfl).set rfl).set rfl).set rfl) 73 j rfl) ?_
  refine ev_putR rfl rfl fl_X10_51 (Or.inr ⟨rfl, _, rfl, rfl⟩) rfl rfl rfl rfl ?_
  refine EvQ.geo (gm_10 L) rfl ?_
  refine ev_aload_n rfl rfl rfl ?_
  refine ev_sipush (v := 144) rfl rfl (by decide) ?_
  refine ev_newa (N := 144) (kc := 20) (ks := 99269) rfl rfl rfl ac_int ⟨rfl, rfl⟩ (by decide) (by decide) (by decide) rfl (fun j => ev_Z.at (((((hz.up (m := 74) rfl).set rfl).set rfl).set rfl).set rfl) 74 j rfl) ?_
  refine ev_putR rfl rfl fl_X10_54 (Or.inr ⟨rfl, _, rfl, rfl⟩) rfl rfl rfl rfl ?_
  refine EvQ.geo (gm_11 L) rfl ?_
  refine ev_aload_n rfl rfl rfl ?_
  refine ev_bipush (v := 64) rfl rfl (by decide) ?_
  refine ev_newa (N := 64) (kc := 19) (ks := 99205) rfl rfl rfl ac_int ⟨rfl, rfl⟩ (by decide) (by decide) (by decide) rfl (fun j => ev_Z.at (((((hz.up (m := 75) rfl).set rfl).set rfl).set rfl).set rfl) 75 j rfl) ?_
  refine ev_putR rfl rfl fl_X10_57 (Or.inr ⟨rfl, _, rfl, rfl⟩) rfl rfl rfl rfl ?_
  refine EvQ.geo (gm_12 L) rfl ?_
  refine ev_aload_n rfl rfl rfl ?_
  refine ev_iconst (v := 5) rfl rfl (by decide) ?_
  refine ev_newa (N := 5) (kc := 18) (ks := 99200) rfl rfl rfl ac_int ⟨rfl, rfl⟩ (by decide) (by decide) (by decide) rfl (fun j => ev_Z.at (((((hz.up (m := 76) rfl).set rfl).set rfl).set rfl).set rfl) 76 j rfl) ?_
  refine ev_putR rfl rfl fl_X10_60 (Or.inr ⟨rfl, _, rfl, rfl⟩) rfl rfl rfl rfl ?_
  refine EvQ.geo (gm_13 L) rfl ?_
  refine ev_aload_n rfl rfl rfl ?_
  refine ev_iconst (v := 5) rfl rfl (by decide) ?_
  refine ev_newa (N := 5) (kc := 17) (ks := 99195) rfl rfl rfl ac_int ⟨rfl, rfl⟩ (by decide) (by decide) (by decide) rfl (fun j => ev_Z.at (((((hz.up (m := 77) rfl).set rfl).set rfl).set rfl).set rfl) 77 j rfl) ?_
  refine ev_putR rfl rfl fl_X10_63 (Or.inr ⟨rfl, _, rfl, rfl⟩) rfl rfl rfl rfl ?_
  refine EvQ.geo (gm_14 L) rfl ?_
  refine ev_aload_n rfl rfl rfl ?_
  refine ev_ldc rfl rfl kc_X10_66 ?_
  refine ev_newa (N := 45225) (kc := 16) (ks := 53970) rfl rfl rfl ac_int ⟨rfl, rfl⟩ (by decide) (by decide) (by decide) rfl (fun j => ev_Z.at (((((hz.up (m := 78) rfl).set rfl).set rfl).set rfl).set rfl) 78 j rfl) ?_
  refine ev_putR rfl rfl fl_X10_67 (Or.inr ⟨rfl, _, rfl, rfl⟩) rfl rfl rfl rfl ?_
  refine EvQ.geo (gm_15 L) rfl ?_
  refine ev_aload_n rfl rfl rfl ?_
  refine ev_bipush (v := 24) rfl rfl (by decide) ?_
  refine ev_newa (N := 24) (kc := 15) (ks := 53946) rfl rfl rfl ac_int ⟨rfl, rfl⟩ (by decide) (by decide) (by decide) rfl (fun j => ev_Z.at (((((hz.up (m := 79) rfl).set rfl).set rfl).set rfl).set rfl) 79 j rfl) ?_
  refine ev_putR rfl rfl fl_X10_70 (Or.inr ⟨rfl, _, rfl, rfl⟩) rfl rfl rfl rfl ?_
  refine EvQ.geo (gm_16 L) rfl ?_
  refine ev_aload_n rfl rfl rfl ?_
  refine ev_bipush (v := 24) rfl rfl (by decide) ?_
  refine ev_newa (N := 24) (kc := 14) (ks := 53922) rfl rfl rfl ac_int ⟨rfl, rfl⟩ (by decide) (by decide) (by decide) rfl (fun j => ev_Z.at (((((hz.up (m := 80) rfl).set rfl).set rfl).set rfl).set rfl) 80 j rfl) ?_
  refine ev_putR rfl rfl fl_X10_73 (Or.inr ⟨rfl, _, rfl, rfl⟩) rfl rfl rfl rfl ?_
  refine EvQ.geo (gm_17 L) rfl ?_
  refine ev_aload_n rfl rfl rfl ?_
  refine ev_sipush (v := 201) rfl rfl (by decide) ?_
  refine ev_newa (N := 201) (kc := 13) (ks := 53721) rfl rfl rfl ac_int ⟨rfl, rfl⟩ (by decide) (by decide) (by decide) rfl (fun j => ev_Z.at (((((hz.up (m := 81) rfl).set rfl).set rfl).set rfl).set rfl) 81 j rfl) ?_
  refine ev_putR rfl rfl fl_X10_76 (Or.inr ⟨rfl, _, rfl, rfl⟩) rfl rfl rfl rfl ?_
  refine EvQ.geo (gm_18 L) rfl ?_
  refine ev_aload_n rfl rfl rfl ?_
  refine ev_sipush (v := 4096) rfl rfl (by decide) ?_
  refine ev_newa (N := 4096) (kc := 12) (ks := 49625) rfl rfl rfl ac_int ⟨rfl, rfl⟩ (by decide) (by decide) (by decide) rfl (fun j => ev_Z.at (((((hz.up (m := 82) rfl).set rfl).set rfl).set rfl).set rfl) 82 j rfl) ?_
  refine ev_putR rfl rfl fl_X10_79 (Or.inr ⟨rfl, _, rfl, rfl⟩) rfl rfl rfl rfl ?_
  refine EvQ.geo (gm_19 L) rfl ?_
  refine ev_aload_n rfl rfl rfl ?_
  refine ev_sipush (v := 4096) rfl rfl (by decide) ?_
  refine ev_newa (N := 4096) (kc := 11) (ks := 45529) rfl rfl rfl ac_int ⟨rfl, rfl⟩ (by decide) (by decide) (by decide) rfl (fun j => ev_Z.at (((((hz.up (m := 83) rfl).set rfl).set rfl).set rfl).set rfl) 83 j rfl) ?_
  refine ev_putR rfl rfl fl_X10_82 (Or.inr ⟨rfl, _, rfl, rfl⟩) rfl rfl rfl rfl ?_
  refine EvQ.geo (gm_20 L) rfl ?_
  refine ev_aload_n rfl rfl rfl ?_
  refine ev_ldc rfl rfl kc_X10_66 ?_
  refine ev_newa (N := 45225) (kc := 10) (ks := 304) rfl rfl rfl ac_boolean ⟨rfl, rfl⟩ (by decide) (by decide) (by decide) rfl (fun j => ev_Z.at (((((hz.up (m := 84) rfl).set rfl).set rfl).set rfl).set rfl) 84 j rfl) ?_
  refine ev_putR rfl rfl fl_X10_85 (Or.inr ⟨rfl, _, rfl, rfl⟩) rfl rfl rfl rfl ?_
  refine EvQ.geo (gm_21 L) rfl ?_
  refine ev_aload_n rfl rfl rfl ?_
  refine ev_bipush (v := 12) rfl rfl (by decide) ?_
  refine ev_newa (N := 12) (kc := 9) (ks := 292) rfl rfl rfl ac_int ⟨rfl, rfl⟩ (by decide) (by decide) (by decide) rfl (fun j => ev_Z.at (((((hz.up (m := 85) rfl).set rfl).set rfl).set rfl).set rfl) 85 j rfl) ?_
  refine ev_putR rfl rfl fl_X10_88 (Or.inr ⟨rfl, _, rfl, rfl⟩) rfl rfl rfl rfl ?_
  refine EvQ.geo (gm_22 L) rfl ?_
  refine ev_aload_n rfl rfl rfl ?_
  refine ev_bipush (v := 12) rfl rfl (by decide) ?_
  refine ev_newa (N := 12) (kc := 8) (ks := 280) rfl rfl rfl ac_boolean ⟨rfl, rfl⟩ (by decide) (by decide) (by decide) rfl (fun j => ev_Z.at (((((hz.up (m := 86) rfl).set rfl).set rfl).set rfl).set rfl) 86 j rfl) ?_
  refine ev_putR rfl rfl fl_X10_91 (Or.inr ⟨rfl, _, rfl, rfl⟩) rfl rfl rfl rfl ?_
  refine EvQ.geo (gm_23 L) rfl ?_
  refine ev_aload_n rfl rfl rfl ?_
  refine ev_bipush (v := 12) rfl rfl (by decide) ?_
  refine ev_newa (N := 12) (kc := 7) (ks := 268) rfl rfl rfl ac_int ⟨rfl, rfl⟩ (by decide) (by decide) (by decide) rfl (fun j => ev_Z.at (((((hz.up (m := 87) rfl).set rfl).set rfl).set rfl).set rfl) 87 j rfl) ?_
  refine ev_putR rfl rfl fl_X10_94 (Or.inr ⟨rfl, _, rfl, rfl⟩) rfl rfl rfl rfl ?_
  refine EvQ.geo (gm_24 L) rfl ?_
  refine ev_aload_n rfl rfl rfl ?_
  refine ev_iconst (v := 4) rfl rfl (by decide) ?_
  refine ev_newa (N := 4) (kc := 6) (ks := 264) rfl rfl rfl ac_int ⟨rfl, rfl⟩ (by decide) (by decide) (by decide) rfl (fun j => ev_Z.at (((((hz.up (m := 88) rfl).set rfl).set rfl).set rfl).set rfl) 88 j rfl) ?_
  refine ev_putR rfl rfl fl_X10_97 (Or.inr ⟨rfl, _, rfl, rfl⟩) rfl rfl rfl rfl ?_
  refine EvQ.geo (gm_25 L) rfl ?_
  refine ev_aload_n rfl rfl rfl ?_
  refine ev_iconst (v := 4) rfl rfl (by decide) ?_
  refine ev_newa (N := 4) (kc := 5) (ks := 260) rfl rfl rfl ac_int ⟨rfl, rfl⟩ (by decide) (by decide) (by decide) rfl (fun j => ev_Z.at (((((hz.up (m := 89) rfl).set rfl).set rfl).set rfl).set rfl) 89 j rfl) ?_
  refine ev_putR rfl rfl fl_X10_100 (Or.inr ⟨rfl, _, rfl, rfl⟩) rfl rfl rfl rfl ?_
  refine EvQ.geo (gm_26 L) rfl ?_
  refine ev_aload_n rfl rfl rfl ?_
  refine ev_bipush (v := 6) rfl rfl (by decide) ?_
  refine ev_newa (N := 6) (kc := 4) (ks := 254) rfl rfl rfl ac_int ⟨rfl, rfl⟩ (by decide) (by decide) (by decide) rfl (fun j => ev_Z.at (((((hz.up (m := 90) rfl).set rfl).set rfl).set rfl).set rfl) 90 j rfl) ?_
  refine ev_putR rfl rfl fl_X10_103 (Or.inr ⟨rfl, _, rfl, rfl⟩) rfl rfl rfl rfl ?_
  refine EvQ.geo (gm_27 L) rfl ?_
  refine ev_aload_n rfl rfl rfl ?_
  refine ev_bipush (v := 6) rfl rfl (by decide) ?_
  refine ev_newa (N := 6) (kc := 3) (ks := 248) rfl rfl rfl ac_int ⟨rfl, rfl⟩ (by decide) (by decide) (by decide) rfl (fun j => ev_Z.at (((((hz.up (m := 91) rfl).set rfl).set rfl).set rfl).set rfl) 91 j rfl) ?_
  refine ev_putR rfl rfl fl_X10_106 (Or.inr ⟨rfl, _, rfl, rfl⟩) rfl rfl rfl rfl ?_
  refine EvQ.geo (gm_28 L) rfl ?_
  refine ev_aload_n rfl rfl rfl ?_
  refine ev_bipush (v := 10) rfl rfl (by decide) ?_
  refine ev_putI rfl rfl fl_X10_109 rfl rfl rfl rfl rfl ?_
  refine ev_aload_n rfl rfl rfl ?_
  refine ev_iconst (v := 4) rfl rfl (by decide) ?_
  refine ev_newa (N := 4) (kc := 2) (ks := 244) rfl rfl rfl ac_int ⟨rfl, rfl⟩ (by decide) (by decide) (by decide) rfl (fun j => ev_Z.at ((((((hz.up (m := 92) rfl).set rfl).set rfl).set rfl).set rfl).set rfl) 92 j rfl) ?_
  refine ev_putR rfl rfl fl_X10_112 (Or.inr ⟨rfl, _, rfl, rfl⟩) rfl rfl rfl rfl ?_
  refine EvQ.geo (gm_29 L) rfl ?_
  refine ev_aload_n rfl rfl rfl ?_
  refine ev_iconst (v := 4) rfl rfl (by decide) ?_
  refine ev_newa (N := 4) (kc := 1) (ks := 240) rfl rfl rfl ac_int ⟨rfl, rfl⟩ (by decide) (by decide) (by decide) rfl (fun j => ev_Z.at ((((((hz.up (m := 93) rfl).set rfl).set rfl).set rfl).set rfl).set rfl) 93 j rfl) ?_
  refine ev_putR rfl rfl fl_X10_115 (Or.inr ⟨rfl, _, rfl, rfl⟩) rfl rfl rfl rfl ?_
  refine EvQ.geo (gm_30 L) rfl ?_
  refine ev_aload_n rfl rfl rfl ?_
  refine ev_sipush (v := 240) rfl rfl (by decide) ?_
  refine ev_newa (N := 240) (kc := 0) (ks := 0) rfl rfl rfl ac_int ⟨rfl, rfl⟩ (by decide) (by decide) (by decide) rfl (fun j => ev_Z.at ((((((hz.up (m := 94) rfl).set rfl).set rfl).set rfl).set rfl).set rfl) 94 j rfl) ?_
  refine ev_putR rfl rfl fl_X10_118 (Or.inr ⟨rfl, _, rfl, rfl⟩) rfl rfl rfl rfl ?_
  refine EvQ.geo (gm_31 L) rfl ?_
  refine ev_iconst (v := 0) rfl rfl (by decide) ?_
  refine ev_istore_n rfl rfl rfl rfl ?_
  dsimp only [List.set]
  refine ev_iload_n rfl rfl rfl ?_
  refine ev_iconst (v := 4) rfl rfl (by decide) ?_
  refine ev_icmp_ge rfl rfl (fun z_ => absurd z_ (by decide)) (fun c_288 => ?_)
  refine ev_aload_n rfl rfl rfl ?_
  refine ev_getR rfl rfl fl_X10_112 rfl rfl rfl rfl ?_
  refine ev_iload_n rfl rfl rfl ?_
  refine ev_bipush (v := (-4)) rfl rfl (by decide) ?_
  refine ev_iast (j := 0) rfl rfl rfl rfl (by unfold vp_in; decide) (by decide) ?_
  refine ev_iinc (y := 1) rfl rfl rfl (by decide) rfl rfl ?_
  dsimp only [List.set]
  refine ev_goto rfl rfl ?_
  refine ev_iload_n rfl rfl rfl ?_
  refine ev_iconst (v := 4) rfl rfl (by decide) ?_
  refine ev_icmp_ge rfl rfl (fun z_ => absurd z_ (by decide)) (fun c_288b => ?_)
  refine ev_aload_n rfl rfl rfl ?_
  refine ev_getR rfl rfl fl_X10_112 rfl rfl rfl rfl ?_
  refine ev_iload_n rfl rfl rfl ?_
  refine ev_bipush (v := (-4)) rfl rfl (by decide) ?_
  refine ev_iast (j := 1) rfl rfl rfl rfl (by unfold vp_in; decide) (by decide) ?_
  refine ev_iinc (y := 1) rfl rfl rfl (by decide) rfl rfl ?_
  dsimp only [List.set]
  refine ev_goto rfl rfl ?_
  refine ev_iload_n rfl rfl rfl ?_
  refine ev_iconst (v := 4) rfl rfl (by decide) ?_
  refine ev_icmp_ge rfl rfl (fun z_ => absurd z_ (by decide)) (fun c_288bb => ?_)
  refine ev_aload_n rfl rfl rfl ?_
  refine ev_getR rfl rfl fl_X10_112 rfl rfl rfl rfl ?_
  refine ev_iload_n rfl rfl rfl ?_
  refine ev_bipush (v := (-4)) rfl rfl (by decide) ?_
  refine ev_iast (j := 2) rfl rfl rfl rfl (by unfold vp_in; decide) (by decide) ?_
  refine ev_iinc (y := 1) rfl rfl rfl (by decide) rfl rfl ?_
  dsimp only [List.set]
  refine ev_goto rfl rfl ?_
  refine ev_iload_n rfl rfl rfl ?_
  refine ev_iconst (v := 4) rfl rfl (by decide) ?_
  refine ev_icmp_ge rfl rfl (fun z_ => absurd z_ (by decide)) (fun c_288bbb => ?_)
  refine ev_aload_n rfl rfl rfl ?_
  refine ev_getR rfl rfl fl_X10_112 rfl rfl rfl rfl ?_
  refine ev_iload_n rfl rfl rfl ?_
  refine ev_bipush (v := (-4)) rfl rfl (by decide) ?_
  refine ev_iast (j := 3) rfl rfl rfl rfl (by unfold vp_in; decide) (by decide) ?_
  refine ev_iinc (y := 1) rfl rfl rfl (by decide) rfl rfl ?_
  dsimp only [List.set]
  refine ev_goto rfl rfl ?_
  refine ev_iload_n rfl rfl rfl ?_
  refine ev_iconst (v := 4) rfl rfl (by decide) ?_
  refine ev_icmp_ge rfl rfl (fun c_288bbbb => ?_) (fun z_ => absurd (by decide) z_)
  exact ev_vret rfl rfl trivial (⟨rfl, rfl, rfl⟩)

