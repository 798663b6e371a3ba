theorem hz_boil {n : Nat} {h : Hp} {a : Nat} (hz : ev_Z n h) (ha : Nat.blt a n = true) : ev_Z n (h_boil h a) := (((hz.set ha).set ha).set ha).set ha
def h_X (h : Hp) : Hp := h_Sheets (h_River (h_Suspects (h_Setting (h_Tunes (h_Reader (h_Acts (h_Whistles (h_boil (h_boil h 2) 3))))))))
def gb_1 (L : Nat) : Geo := List.cons (.inr (.int, L), []) [ge_80]
theorem hz_Whistles {h : Hp} (hz : ev_Z 11 h) : ev_Z 11 (h_Whistles h) := hz
theorem hz_Acts {h : Hp} (hz : ev_Z 23 h) : ev_Z 23 (h_Acts h) := hz
theorem hz_Reader {h : Hp} (hz : ev_Z 28 h) : ev_Z 28 (h_Reader h) := ((hz).set rfl)
theorem hz_Tunes {h : Hp} (hz : ev_Z 37 h) : ev_Z 37 (h_Tunes h) := hz
theorem hz_Setting {h : Hp} (hz : ev_Z 45 h) : ev_Z 45 (h_Setting h) := hz
theorem hz_Suspects {h : Hp} (hz : ev_Z 50 h) : ev_Z 50 (h_Suspects h) := ((hz).set rfl)
theorem hz_River {h : Hp} (hz : ev_Z 55 h) : ev_Z 55 (h_River h) := ((((((hz).set rfl)).set rfl)).set rfl)
def gs_1 (L : Nat) : Geo := List.cons (.inr (.int, L), []) [ge_81, ge_1]
def gs_2 (L : Nat) : Geo := List.cons (.inr (.int, L), []) [ge_0, ge_1, ge_1]
def gs_3 (L : Nat) : Geo := List.cons (.inr (.int, L), []) [ge_6, ge_1, ge_1, ge_3, ge_4, ge_4, ge_4, ge_5, ge_4, ge_4]
def gs_4 (L : Nat) : Geo := List.cons (.inr (.int, L), []) [ge_11, ge_1, ge_1, ge_3, ge_4, ge_4, ge_4, ge_5, ge_4, ge_4, ge_8, ge_9, ge_10, ge_10, ge_10, ge_10, ge_10, ge_10, ge_10, ge_10, ge_10, ge_10]
def gs_5 (L : Nat) : Geo := List.cons (.inr (.int, L), []) [ge_17, ge_1, ge_1, ge_3, ge_4, ge_4, ge_4, ge_5, ge_4, ge_4, ge_8, ge_9, ge_10, ge_10, ge_10, ge_10, ge_10, ge_10, ge_10, ge_10, ge_10, ge_10, ge_13, ge_14, ge_15, ge_16, ge_16]
def gs_6 (L : Nat) : Geo := List.cons (.inr (.int, L), []) [ge_22, ge_1, ge_1, ge_3, ge_4, ge_4, ge_4, ge_5, ge_4, ge_4, ge_8, ge_9, ge_10, ge_10, ge_10, ge_10, ge_10, ge_10, ge_10, ge_10, ge_10, ge_10, ge_13, ge_14, ge_15, ge_16, ge_16, ge_19, ge_20, ge_15, ge_15, ge_15, ge_15, ge_15, ge_15, ge_21]
def gs_7 (L : Nat) : Geo := List.cons (.inr (.int, L), []) [ge_28, ge_1, ge_1, ge_3, ge_4, ge_4, ge_4, ge_5, ge_4, ge_4, ge_8, ge_9, ge_10, ge_10, ge_10, ge_10, ge_10, ge_10, ge_10, ge_10, ge_10, ge_10, ge_13, ge_14, ge_15, ge_16, ge_16, ge_19, ge_20, ge_15, ge_15, ge_15, ge_15, ge_15, ge_15, ge_21, ge_24, ge_25, ge_15, ge_26, ge_26, ge_15, ge_15, ge_27]
def gs_8 (L : Nat) : Geo := List.cons (.inr (.int, L), []) [ge_31, ge_1, ge_1, ge_3, ge_4, ge_4, ge_4, ge_5, ge_4, ge_4, ge_8, ge_9, ge_10, ge_10, ge_10, ge_10, ge_10, ge_10, ge_10, ge_10, ge_10, ge_10, ge_13, ge_14, ge_15, ge_16, ge_16, ge_19, ge_20, ge_15, ge_15, ge_15, ge_15, ge_15, ge_15, ge_21, ge_24, ge_25, ge_15, ge_26, ge_26, ge_15, ge_15, ge_27, ge_30, ge_15, ge_15, ge_4, ge_4]
def gs_9 (L : Nat) : Geo := List.cons (.inr (.int, L), []) [ge_34, ge_1, ge_1, ge_3, ge_4, ge_4, ge_4, ge_5, ge_4, ge_4, ge_8, ge_9, ge_10, ge_10, ge_10, ge_10, ge_10, ge_10, ge_10, ge_10, ge_10, ge_10, ge_13, ge_14, ge_15, ge_16, ge_16, ge_19, ge_20, ge_15, ge_15, ge_15, ge_15, ge_15, ge_15, ge_21, ge_24, ge_25, ge_15, ge_26, ge_26, ge_15, ge_15, ge_27, ge_30, ge_15, ge_15, ge_4, ge_4, ge_33, ge_16, ge_16, ge_21, ge_21]
def gs_10 (L : Nat) : Geo := List.cons (.inr (.int, L), []) [ge_39, ge_1, ge_1, ge_3, ge_4, ge_4, ge_4, ge_5, ge_4, ge_4, ge_8, ge_9, ge_10, ge_10, ge_10, ge_10, ge_10, ge_10, ge_10, ge_10, ge_10, ge_10, ge_13, ge_14, ge_15, ge_16, ge_16, ge_19, ge_20, ge_15, ge_15, ge_15, ge_15, ge_15, ge_15, ge_21, ge_24, ge_25, ge_15, ge_26, ge_26, ge_15, ge_15, ge_27, ge_30, ge_15, ge_15, ge_4, ge_4, ge_33, ge_16, ge_16, ge_21, ge_21, ge_36, ge_37, ge_38, ge_38, ge_38, ge_38, ge_16, ge_16]
set_option maxRecDepth 100000 in
set_option maxHeartbeats 4000000 in
theorem c_X_init (L : Nat) (h : Hp) (hz : ev_Z 1 h) : EvM mi_X9_init [.ref 1] (gb_1 L) h 61 1493 (fun v G' h' => v = none ∧ G' = gs_10 L ∧ h' = h_X h) := by
  refine EvM.of2 (lo := [some (.ref 1)]) pf_X9_init ok_X9_init rfl rfl ?_
  refine ev_aload_n rfl rfl rfl ?_
  refine ev_obj rfl rfl oi_X9_1 oi_i oi_c rfl rfl ?_
  refine ev_aload_n rfl rfl rfl ?_
  refine ev_new (kc := 60) (ks := 1488) rfl rfl cl_X9_7 rfl rfl (fun j => ev_Z.at (hz.up (m := 2) rfl) 2 j rfl) ?_
  refine ev_dup rfl rfl rfl ?_
  refine ev_IN0 (kc := 60) (ks := 1488) rfl rfl lk_X9_9 in_X1_init rfl rfl (c_Boiler_init _ _ 2 rfl rfl (ev_Z.at (hz.up (m := 2) rfl) 2 4 rfl)) ?_
  rintro G' h' ⟨-, rfl, rfl⟩
  refine ev_putR rfl rfl fl_X9_10 (Or.inr ⟨rfl, _, rfl, rfl⟩) rfl rfl rfl rfl ?_
  refine EvQ.geo (gs_1 L) rfl ?_
  refine ev_aload_n rfl rfl rfl ?_
  refine ev_new (kc := 59) (ks := 1483) rfl rfl cl_X9_7 rfl rfl (fun j => ev_Z.at (hz_boil (hz.up (m := 3) rfl) rfl) 3 j rfl) ?_
  refine ev_dup rfl rfl rfl ?_
  refine ev_IN0 (kc := 59) (ks := 1483) rfl rfl lk_X9_9 in_X1_init rfl rfl (c_Boiler_init _ _ 3 rfl rfl (ev_Z.at (hz_boil (hz.up (m := 3) rfl) rfl) 3 4 rfl)) ?_
  rintro G' h' ⟨-, rfl, rfl⟩
  refine ev_putR rfl rfl fl_X9_16 (Or.inr ⟨rfl, _, rfl, rfl⟩) rfl rfl rfl rfl ?_
  refine EvQ.geo (gs_2 L) rfl ?_
  refine ev_aload_n rfl rfl rfl ?_
  refine ev_new (kc := 58) (ks := 1475) rfl rfl cl_X9_19 rfl rfl (fun j => ev_Z.at (hz_boil (hz_boil (hz.up (m := 4) rfl) rfl) rfl) 4 j rfl) ?_
  refine EvQ.geo (gb_4 L) rfl ?_
  refine ev_dup rfl rfl rfl ?_
  refine ev_IN0 (kc := 52) (ks := 1403) rfl rfl lk_X9_21 in_X8_init rfl rfl (c_Whistles_init L _ (hz_boil (hz_boil (hz.up (m := 4) rfl) rfl) rfl)) ?_
  rintro G' h' ⟨-, rfl, rfl⟩
  refine ev_putR rfl rfl fl_X9_22 (Or.inr ⟨rfl, _, rfl, rfl⟩) rfl rfl rfl rfl ?_
  refine EvQ.geo (gs_3 L) rfl ?_
  refine ev_aload_n rfl rfl rfl ?_
  refine ev_new (kc := 51) (ks := 1399) rfl rfl cl_X9_26 rfl rfl (fun j => ev_Z.at (hz_Whistles (ev_Z.up (m := 11) (hz_boil (hz_boil (hz.up (m := 4) rfl) rfl) rfl) rfl)) 11 j rfl) ?_
  refine EvQ.geo (gb_11 L) rfl ?_
  refine ev_dup rfl rfl rfl ?_
  refine ev_IN0 (kc := 40) (ks := 1089) rfl rfl lk_X9_28 in_X0_init rfl rfl (c_Acts_init L _ (hz_Whistles (ev_Z.up (m := 11) (hz_boil (hz_boil (hz.up (m := 4) rfl) rfl) rfl) rfl))) ?_
  rintro G' h' ⟨-, rfl, rfl⟩
  refine ev_putR rfl rfl fl_X9_29 (Or.inr ⟨rfl, _, rfl, rfl⟩) rfl rfl rfl rfl ?_
  refine EvQ.geo (gs_4 L) rfl ?_
  refine ev_aload_n rfl rfl rfl ?_
  refine ev_new (kc := 39) (ks := 1075) rfl rfl cl_X9_33 rfl rfl (fun j => ev_Z.at (hz_Acts (ev_Z.up (m := 23) (hz_Whistles (ev_Z.up (m := 11) (hz_boil (hz_boil (hz.up (m := 4) rfl) rfl) rfl) rfl)) rfl)) 23 j rfl) ?_
  refine EvQ.geo (gb_23 L) rfl ?_
  refine ev_dup rfl rfl rfl ?_
  refine ev_IN0 (kc := 35) (ks := 883) rfl rfl lk_X9_35 in_X2_init rfl rfl (c_Reader_init L _ (hz_Acts (ev_Z.up (m := 23) (hz_Whistles (ev_Z.up (m := 11) (hz_boil (hz_boil (hz.up (m := 4) rfl) rfl) rfl) rfl)) rfl))) ?_
  rintro G' h' ⟨-, rfl, rfl⟩
  refine ev_putR rfl rfl fl_X9_36 (Or.inr ⟨rfl, _, rfl, rfl⟩) rfl rfl rfl rfl ?_
  refine EvQ.geo (gs_5 L) rfl ?_
  refine ev_aload_n rfl rfl rfl ?_
  refine ev_new (kc := 34) (ks := 880) rfl rfl cl_X9_40 rfl rfl (fun j => ev_Z.at (hz_Reader (ev_Z.up (m := 28) (hz_Acts (ev_Z.up (m := 23) (hz_Whistles (ev_Z.up (m := 11) (hz_boil (hz_boil (hz.up (m := 4) rfl) rfl) rfl) rfl)) rfl)) rfl)) 28 j rfl) ?_
  refine EvQ.geo (gb_28 L) rfl ?_
  refine ev_dup rfl rfl rfl ?_
  refine ev_IN0 (kc := 26) (ks := 724) rfl rfl lk_X9_42 in_X7_init rfl rfl (c_Tunes_init L _ (hz_Reader (ev_Z.up (m := 28) (hz_Acts (ev_Z.up (m := 23) (hz_Whistles (ev_Z.up (m := 11) (hz_boil (hz_boil (hz.up (m := 4) rfl) rfl) rfl) rfl)) rfl)) rfl))) ?_
  rintro G' h' ⟨-, rfl, rfl⟩
  refine ev_putR rfl rfl fl_X9_43 (Or.inr ⟨rfl, _, rfl, rfl⟩) rfl rfl rfl rfl ?_
  refine EvQ.geo (gs_6 L) rfl ?_
  refine ev_aload_n rfl rfl rfl ?_
  refine ev_new (kc := 25) (ks := 708) rfl rfl cl_X9_47 rfl rfl (fun j => ev_Z.at (hz_Tunes (ev_Z.up (m := 37) (hz_Reader (ev_Z.up (m := 28) (hz_Acts (ev_Z.up (m := 23) (hz_Whistles (ev_Z.up (m := 11) (hz_boil (hz_boil (hz.up (m := 4) rfl) rfl) rfl) rfl)) rfl)) rfl)) rfl)) 37 j rfl) ?_
  refine EvQ.geo (gb_37 L) rfl ?_
  refine ev_dup rfl rfl rfl ?_
  refine ev_IN0 (kc := 18) (ks := 366) rfl rfl lk_X9_49 in_X4_init rfl rfl (c_Setting_init L _ (hz_Tunes (ev_Z.up (m := 37) (hz_Reader (ev_Z.up (m := 28) (hz_Acts (ev_Z.up (m := 23) (hz_Whistles (ev_Z.up (m := 11) (hz_boil (hz_boil (hz.up (m := 4) rfl) rfl) rfl) rfl)) rfl)) rfl)) rfl))) ?_
  rintro G' h' ⟨-, rfl, rfl⟩
  refine ev_putR rfl rfl fl_X9_50 (Or.inr ⟨rfl, _, rfl, rfl⟩) rfl rfl rfl rfl ?_
  refine EvQ.geo (gs_7 L) rfl ?_
  refine ev_aload_n rfl rfl rfl ?_
  refine ev_new (kc := 17) (ks := 358) rfl rfl cl_X9_54 rfl rfl (fun j => ev_Z.at (hz_Setting (ev_Z.up (m := 45) (hz_Tunes (ev_Z.up (m := 37) (hz_Reader (ev_Z.up (m := 28) (hz_Acts (ev_Z.up (m := 23) (hz_Whistles (ev_Z.up (m := 11) (hz_boil (hz_boil (hz.up (m := 4) rfl) rfl) rfl) rfl)) rfl)) rfl)) rfl)) rfl)) 45 j rfl) ?_
  refine EvQ.geo (gb_45 L) rfl ?_
  refine ev_dup rfl rfl rfl ?_
  refine ev_IN0 (kc := 13) (ks := 286) rfl rfl lk_X9_56 in_X6_init rfl rfl (c_Suspects_init L _ (hz_Setting (ev_Z.up (m := 45) (hz_Tunes (ev_Z.up (m := 37) (hz_Reader (ev_Z.up (m := 28) (hz_Acts (ev_Z.up (m := 23) (hz_Whistles (ev_Z.up (m := 11) (hz_boil (hz_boil (hz.up (m := 4) rfl) rfl) rfl) rfl)) rfl)) rfl)) rfl)) rfl))) ?_
  rintro G' h' ⟨-, rfl, rfl⟩
  refine ev_putR rfl rfl fl_X9_57 (Or.inr ⟨rfl, _, rfl, rfl⟩) rfl rfl rfl rfl ?_
  refine EvQ.geo (gs_8 L) rfl ?_
  refine ev_aload_n rfl rfl rfl ?_
  refine ev_new (kc := 12) (ks := 275) rfl rfl cl_X9_61 rfl rfl (fun j => ev_Z.at (hz_Suspects (ev_Z.up (m := 50) (hz_Setting (ev_Z.up (m := 45) (hz_Tunes (ev_Z.up (m := 37) (hz_Reader (ev_Z.up (m := 28) (hz_Acts (ev_Z.up (m := 23) (hz_Whistles (ev_Z.up (m := 11) (hz_boil (hz_boil (hz.up (m := 4) rfl) rfl) rfl) rfl)) rfl)) rfl)) rfl)) rfl)) rfl)) 50 j rfl) ?_
  refine EvQ.geo (gb_50 L) rfl ?_
  refine ev_dup rfl rfl rfl ?_
  refine ev_IN0 (kc := 8) (ks := 255) rfl rfl lk_X9_63 in_X3_init rfl rfl (c_River_init L _ (hz_Suspects (ev_Z.up (m := 50) (hz_Setting (ev_Z.up (m := 45) (hz_Tunes (ev_Z.up (m := 37) (hz_Reader (ev_Z.up (m := 28) (hz_Acts (ev_Z.up (m := 23) (hz_Whistles (ev_Z.up (m := 11) (hz_boil (hz_boil (hz.up (m := 4) rfl) rfl) rfl) rfl)) rfl)) rfl)) rfl)) rfl)) rfl))) ?_
  rintro G' h' ⟨-, rfl, rfl⟩
  refine ev_putR rfl rfl fl_X9_64 (Or.inr ⟨rfl, _, rfl, rfl⟩) rfl rfl rfl rfl ?_
  refine EvQ.geo (gs_9 L) rfl ?_
  refine ev_aload_n rfl rfl rfl ?_
  refine ev_new (kc := 7) (ks := 252) rfl rfl cl_X9_68 rfl rfl (fun j => ev_Z.at (hz_River (ev_Z.up (m := 55) (hz_Suspects (ev_Z.up (m := 50) (hz_Setting (ev_Z.up (m := 45) (hz_Tunes (ev_Z.up (m := 37) (hz_Reader (ev_Z.up (m := 28) (hz_Acts (ev_Z.up (m := 23) (hz_Whistles (ev_Z.up (m := 11) (hz_boil (hz_boil (hz.up (m := 4) rfl) rfl) rfl) rfl)) rfl)) rfl)) rfl)) rfl)) rfl)) rfl)) 55 j rfl) ?_
  refine EvQ.geo (gb_55 L) rfl ?_
  refine ev_dup rfl rfl rfl ?_
  refine ev_IN0 (kc := 0) (ks := 0) rfl rfl lk_X9_70 in_X5_init rfl rfl (c_Sheets_init L _ (hz_River (ev_Z.up (m := 55) (hz_Suspects (ev_Z.up (m := 50) (hz_Setting (ev_Z.up (m := 45) (hz_Tunes (ev_Z.up (m := 37) (hz_Reader (ev_Z.up (m := 28) (hz_Acts (ev_Z.up (m := 23) (hz_Whistles (ev_Z.up (m := 11) (hz_boil (hz_boil (hz.up (m := 4) rfl) rfl) rfl) rfl)) rfl)) rfl)) rfl)) rfl)) rfl)) rfl))) ?_
  rintro G' h' ⟨-, rfl, rfl⟩
  refine ev_putR rfl rfl fl_X9_71 (Or.inr ⟨rfl, _, rfl, rfl⟩) rfl rfl rfl rfl ?_
  refine EvQ.geo (gs_10 L) rfl ?_
  exact ev_vret rfl rfl trivial (⟨rfl, rfl, rfl⟩)

