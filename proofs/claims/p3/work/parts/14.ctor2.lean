theorem hz_boil {n : Nat} {h : Hp} {a : Nat} (hz : ev_Z n h) (ha : Nat.blt a n = true) : ev_Z n (h_boil h a) := (((hz.set ha).set ha).set ha).set ha
def h_X (h : Hp) : Hp := h_Sheets (h_River (h_Suspects (h_Setting (h_Tunes (h_Reader (h_Acts (h_Whistles (h_boil (h_boil h 2) 3))))))))
def gb_1 (L : Nat) : Geo := (.inr (.int, L), []) :: [(.inl 9, [none, none, none, none, none, none, none, none, none, none])]
theorem hz_Whistles {h : Hp} (hz : ev_Z 11 h) : ev_Z 11 (h_Whistles h) := hz
theorem hz_Acts {h : Hp} (hz : ev_Z 23 h) : ev_Z 23 (h_Acts h) := hz
theorem hz_Reader {h : Hp} (hz : ev_Z 28 h) : ev_Z 28 (h_Reader h) := ((hz).set rfl)
theorem hz_Tunes {h : Hp} (hz : ev_Z 37 h) : ev_Z 37 (h_Tunes h) := hz
theorem hz_Setting {h : Hp} (hz : ev_Z 45 h) : ev_Z 45 (h_Setting h) := hz
theorem hz_Suspects {h : Hp} (hz : ev_Z 50 h) : ev_Z 50 (h_Suspects h) := ((hz).set rfl)
theorem hz_River {h : Hp} (hz : ev_Z 55 h) : ev_Z 55 (h_River h) := ((((((hz).set rfl)).set rfl)).set rfl)
def gs_1 (L : Nat) : Geo := (.inr (.int, L), []) :: [(.inl 9, [some 2, none, none, none, none, none, none, none, none, none]), (.inl 1, [none, none, none, none, none])]
def gs_2 (L : Nat) : Geo := (.inr (.int, L), []) :: [(.inl 9, [some 2, some 3, none, none, none, none, none, none, none, none]), (.inl 1, [none, none, none, none, none]), (.inl 1, [none, none, none, none, none])]
def gs_3 (L : Nat) : Geo := (.inr (.int, L), []) :: [(.inl 9, [some 2, some 3, some 4, none, none, none, none, none, none, none]), (.inl 1, [none, none, none, none, none]), (.inl 1, [none, none, none, none, none]), (.inl 8, [some 5, some 6, some 7, some 8, some 9, some 10, none, none]), (.inr (.int, 12), []), (.inr (.int, 12), []), (.inr (.int, 12), []), (.inr (.boolean, 12), []), (.inr (.int, 12), []), (.inr (.int, 12), [])]
def gs_4 (L : Nat) : Geo := (.inr (.int, L), []) :: [(.inl 9, [some 2, some 3, some 4, some 11, none, none, none, none, none, none]), (.inl 1, [none, none, none, none, none]), (.inl 1, [none, none, none, none, none]), (.inl 8, [some 5, some 6, some 7, some 8, some 9, some 10, none, none]), (.inr (.int, 12), []), (.inr (.int, 12), []), (.inr (.int, 12), []), (.inr (.boolean, 12), []), (.inr (.int, 12), []), (.inr (.int, 12), []), (.inl 0, [some 12, none, none, none]), (.inr (.array .int, 10), [some 13, some 14, some 15, some 16, some 17, some 18, some 19, some 20, some 21, some 22]), (.inr (.int, 30), []), (.inr (.int, 30), []), (.inr (.int, 30), []), (.inr (.int, 30), []), (.inr (.int, 30), []), (.inr (.int, 30), []), (.inr (.int, 30), []), (.inr (.int, 30), []), (.inr (.int, 30), []), (.inr (.int, 30), [])]
def gs_5 (L : Nat) : Geo := (.inr (.int, L), []) :: [(.inl 9, [some 2, some 3, some 4, some 11, some 23, none, none, none, none, none]), (.inl 1, [none, none, none, none, none]), (.inl 1, [none, none, none, none, none]), (.inl 8, [some 5, some 6, some 7, some 8, some 9, some 10, none, none]), (.inr (.int, 12), []), (.inr (.int, 12), []), (.inr (.int, 12), []), (.inr (.boolean, 12), []), (.inr (.int, 12), []), (.inr (.int, 12), []), (.inl 0, [some 12, none, none, none]), (.inr (.array .int, 10), [some 13, some 14, some 15, some 16, some 17, some 18, some 19, some 20, some 21, some 22]), (.inr (.int, 30), []), (.inr (.int, 30), []), (.inr (.int, 30), []), (.inr (.int, 30), []), (.inr (.int, 30), []), (.inr (.int, 30), []), (.inr (.int, 30), []), (.inr (.int, 30), []), (.inr (.int, 30), []), (.inr (.int, 30), []), (.inl 2, [some 24, none, none, none, none, none, none, none, none, some 25, none, some 26, some 27, none]), (.inr (.byte, 160), []), (.inr (.int, 24), []), (.inr (.int, 4), []), (.inr (.int, 4), [])]
def gs_6 (L : Nat) : Geo := (.inr (.int, L), []) :: [(.inl 9, [some 2, some 3, some 4, some 11, some 23, some 28, none, none, none, none]), (.inl 1, [none, none, none, none, none]), (.inl 1, [none, none, none, none, none]), (.inl 8, [some 5, some 6, some 7, some 8, some 9, some 10, none, none]), (.inr (.int, 12), []), (.inr (.int, 12), []), (.inr (.int, 12), []), (.inr (.boolean, 12), []), (.inr (.int, 12), []), (.inr (.int, 12), []), (.inl 0, [some 12, none, none, none]), (.inr (.array .int, 10), [some 13, some 14, some 15, some 16, some 17, some 18, some 19, some 20, some 21, some 22]), (.inr (.int, 30), []), (.inr (.int, 30), []), (.inr (.int, 30), []), (.inr (.int, 30), []), (.inr (.int, 30), []), (.inr (.int, 30), []), (.inr (.int, 30), []), (.inr (.int, 30), []), (.inr (.int, 30), []), (.inr (.int, 30), []), (.inl 2, [some 24, none, none, none, none, none, none, none, none, some 25, none, some 26, some 27, none]), (.inr (.byte, 160), []), (.inr (.int, 24), []), (.inr (.int, 4), []), (.inr (.int, 4), []), (.inl 7, [some 29, some 36, none]), (.inr (.array .int, 6), [some 30, some 31, some 32, some 33, some 34, some 35]), (.inr (.int, 24), []), (.inr (.int, 24), []), (.inr (.int, 24), []), (.inr (.int, 24), []), (.inr (.int, 24), []), (.inr (.int, 24), []), (.inr (.int, 6), [])]
def gs_7 (L : Nat) : Geo := (.inr (.int, L), []) :: [(.inl 9, [some 2, some 3, some 4, some 11, some 23, some 28, some 37, none, none, none]), (.inl 1, [none, none, none, none, none]), (.inl 1, [none, none, none, none, none]), (.inl 8, [some 5, some 6, some 7, some 8, some 9, some 10, none, none]), (.inr (.int, 12), []), (.inr (.int, 12), []), (.inr (.int, 12), []), (.inr (.boolean, 12), []), (.inr (.int, 12), []), (.inr (.int, 12), []), (.inl 0, [some 12, none, none, none]), (.inr (.array .int, 10), [some 13, some 14, some 15, some 16, some 17, some 18, some 19, some 20, some 21, some 22]), (.inr (.int, 30), []), (.inr (.int, 30), []), (.inr (.int, 30), []), (.inr (.int, 30), []), (.inr (.int, 30), []), (.inr (.int, 30), []), (.inr (.int, 30), []), (.inr (.int, 30), []), (.inr (.int, 30), []), (.inr (.int, 30), []), (.inl 2, [some 24, none, none, none, none, none, none, none, none, some 25, none, some 26, some 27, none]), (.inr (.byte, 160), []), (.inr (.int, 24), []), (.inr (.int, 4), []), (.inr (.int, 4), []), (.inl 7, [some 29, some 36, none]), (.inr (.array .int, 6), [some 30, some 31, some 32, some 33, some 34, some 35]), (.inr (.int, 24), []), (.inr (.int, 24), []), (.inr (.int, 24), []), (.inr (.int, 24), []), (.inr (.int, 24), []), (.inr (.int, 24), []), (.inr (.int, 6), []), (.inl 4, [none, some 38, some 39, none, none, some 40, some 41, none, none, some 42, some 43, none, none, none, some 44, none]), (.inr (.int, 201), []), (.inr (.int, 24), []), (.inr (.int, 32), []), (.inr (.int, 32), []), (.inr (.int, 24), []), (.inr (.int, 24), []), (.inr (.int, 5), [])]
def gs_8 (L : Nat) : Geo := (.inr (.int, L), []) :: [(.inl 9, [some 2, some 3, some 4, some 11, some 23, some 28, some 37, some 45, none, none]), (.inl 1, [none, none, none, none, none]), (.inl 1, [none, none, none, none, none]), (.inl 8, [some 5, some 6, some 7, some 8, some 9, some 10, none, none]), (.inr (.int, 12), []), (.inr (.int, 12), []), (.inr (.int, 12), []), (.inr (.boolean, 12), []), (.inr (.int, 12), []), (.inr (.int, 12), []), (.inl 0, [some 12, none, none, none]), (.inr (.array .int, 10), [some 13, some 14, some 15, some 16, some 17, some 18, some 19, some 20, some 21, some 22]), (.inr (.int, 30), []), (.inr (.int, 30), []), (.inr (.int, 30), []), (.inr (.int, 30), []), (.inr (.int, 30), []), (.inr (.int, 30), []), (.inr (.int, 30), []), (.inr (.int, 30), []), (.inr (.int, 30), []), (.inr (.int, 30), []), (.inl 2, [some 24, none, none, none, none, none, none, none, none, some 25, none, some 26, some 27, none]), (.inr (.byte, 160), []), (.inr (.int, 24), []), (.inr (.int, 4), []), (.inr (.int, 4), []), (.inl 7, [some 29, some 36, none]), (.inr (.array .int, 6), [some 30, some 31, some 32, some 33, some 34, some 35]), (.inr (.int, 24), []), (.inr (.int, 24), []), (.inr (.int, 24), []), (.inr (.int, 24), []), (.inr (.int, 24), []), (.inr (.int, 24), []), (.inr (.int, 6), []), (.inl 4, [none, some 38, some 39, none, none, some 40, some 41, none, none, some 42, some 43, none, none, none, some 44, none]), (.inr (.int, 201), []), (.inr (.int, 24), []), (.inr (.int, 32), []), (.inr (.int, 32), []), (.inr (.int, 24), []), (.inr (.int, 24), []), (.inr (.int, 5), []), (.inl 6, [some 46, some 47, none, some 48, none, some 49, none, none]), (.inr (.int, 24), []), (.inr (.int, 24), []), (.inr (.int, 12), []), (.inr (.int, 12), [])]
def gs_9 (L : Nat) : Geo := (.inr (.int, L), []) :: [(.inl 9, [some 2, some 3, some 4, some 11, some 23, some 28, some 37, some 45, some 50, none]), (.inl 1, [none, none, none, none, none]), (.inl 1, [none, none, none, none, none]), (.inl 8, [some 5, some 6, some 7, some 8, some 9, some 10, none, none]), (.inr (.int, 12), []), (.inr (.int, 12), []), (.inr (.int, 12), []), (.inr (.boolean, 12), []), (.inr (.int, 12), []), (.inr (.int, 12), []), (.inl 0, [some 12, none, none, none]), (.inr (.array .int, 10), [some 13, some 14, some 15, some 16, some 17, some 18, some 19, some 20, some 21, some 22]), (.inr (.int, 30), []), (.inr (.int, 30), []), (.inr (.int, 30), []), (.inr (.int, 30), []), (.inr (.int, 30), []), (.inr (.int, 30), []), (.inr (.int, 30), []), (.inr (.int, 30), []), (.inr (.int, 30), []), (.inr (.int, 30), []), (.inl 2, [some 24, none, none, none, none, none, none, none, none, some 25, none, some 26, some 27, none]), (.inr (.byte, 160), []), (.inr (.int, 24), []), (.inr (.int, 4), []), (.inr (.int, 4), []), (.inl 7, [some 29, some 36, none]), (.inr (.array .int, 6), [some 30, some 31, some 32, some 33, some 34, some 35]), (.inr (.int, 24), []), (.inr (.int, 24), []), (.inr (.int, 24), []), (.inr (.int, 24), []), (.inr (.int, 24), []), (.inr (.int, 24), []), (.inr (.int, 6), []), (.inl 4, [none, some 38, some 39, none, none, some 40, some 41, none, none, some 42, some 43, none, none, none, some 44, none]), (.inr (.int, 201), []), (.inr (.int, 24), []), (.inr (.int, 32), []), (.inr (.int, 32), []), (.inr (.int, 24), []), (.inr (.int, 24), []), (.inr (.int, 5), []), (.inl 6, [some 46, some 47, none, some 48, none, some 49, none, none]), (.inr (.int, 24), []), (.inr (.int, 24), []), (.inr (.int, 12), []), (.inr (.int, 12), []), (.inl 3, [some 51, some 52, none, some 53, some 54, none, none, none, none, none, none]), (.inr (.int, 4), []), (.inr (.int, 4), []), (.inr (.int, 6), []), (.inr (.int, 6), [])]
def gs_10 (L : Nat) : Geo := (.inr (.int, L), []) :: [(.inl 9, [some 2, some 3, some 4, some 11, some 23, some 28, some 37, some 45, some 50, some 55]), (.inl 1, [none, none, none, none, none]), (.inl 1, [none, none, none, none, none]), (.inl 8, [some 5, some 6, some 7, some 8, some 9, some 10, none, none]), (.inr (.int, 12), []), (.inr (.int, 12), []), (.inr (.int, 12), []), (.inr (.boolean, 12), []), (.inr (.int, 12), []), (.inr (.int, 12), []), (.inl 0, [some 12, none, none, none]), (.inr (.array .int, 10), [some 13, some 14, some 15, some 16, some 17, some 18, some 19, some 20, some 21, some 22]), (.inr (.int, 30), []), (.inr (.int, 30), []), (.inr (.int, 30), []), (.inr (.int, 30), []), (.inr (.int, 30), []), (.inr (.int, 30), []), (.inr (.int, 30), []), (.inr (.int, 30), []), (.inr (.int, 30), []), (.inr (.int, 30), []), (.inl 2, [some 24, none, none, none, none, none, none, none, none, some 25, none, some 26, some 27, none]), (.inr (.byte, 160), []), (.inr (.int, 24), []), (.inr (.int, 4), []), (.inr (.int, 4), []), (.inl 7, [some 29, some 36, none]), (.inr (.array .int, 6), [some 30, some 31, some 32, some 33, some 34, some 35]), (.inr (.int, 24), []), (.inr (.int, 24), []), (.inr (.int, 24), []), (.inr (.int, 24), []), (.inr (.int, 24), []), (.inr (.int, 24), []), (.inr (.int, 6), []), (.inl 4, [none, some 38, some 39, none, none, some 40, some 41, none, none, some 42, some 43, none, none, none, some 44, none]), (.inr (.int, 201), []), (.inr (.int, 24), []), (.inr (.int, 32), []), (.inr (.int, 32), []), (.inr (.int, 24), []), (.inr (.int, 24), []), (.inr (.int, 5), []), (.inl 6, [some 46, some 47, none, some 48, none, some 49, none, none]), (.inr (.int, 24), []), (.inr (.int, 24), []), (.inr (.int, 12), []), (.inr (.int, 12), []), (.inl 3, [some 51, some 52, none, some 53, some 54, none, none, none, none, none, none]), (.inr (.int, 4), []), (.inr (.int, 4), []), (.inr (.int, 6), []), (.inr (.int, 6), []), (.inl 5, [some 56, some 61, some 62]), (.inr (.array .int, 4), [some 57, some 58, some 59, some 60]), (.inr (.int, 60), []), (.inr (.int, 60), []), (.inr (.int, 60), []), (.inr (.int, 60), []), (.inr (.int, 4), []), (.inr (.int, 4), [])]
set_option maxRecDepth 100000 in
set_option maxHeartbeats 4000000 in
theorem c_X_init (L : Nat) (h : Hp) (hz : ev_Z 1 h) : EvM mi_X9_init [.ref 1] (gb_1 L) h 61 1493 (fun v G' h' => v = none ∧ G' = gs_10 L ∧ h' = h_X h) := by
  refine EvM.of2 (lo := [some (.ref 1)]) pf_X9_init ok_X9_init rfl rfl ?_
  refine ev_aload_n rfl rfl rfl ?_
  refine ev_obj rfl rfl oi_X9_1 oi_i oi_c rfl rfl ?_
  refine ev_aload_n rfl rfl rfl ?_
  refine ev_new (kc := 60) (ks := 1488) rfl rfl cl_X9_7 rfl rfl (fun j => ev_Z.at (hz.up (m := 2) rfl) 2 j rfl) ?_
  refine ev_dup rfl rfl rfl ?_
  refine ev_IN0 (kc := 60) (ks := 1488) rfl rfl lk_X9_9 in_X1_init rfl rfl (c_Boiler_init _ _ 2 rfl rfl (ev_Z.at (hz.up (m := 2) rfl) 2 4 rfl)) ?_
  rintro G' h' ⟨-, rfl, rfl⟩
  refine ev_putR rfl rfl fl_X9_10 (Or.inr ⟨rfl, _, rfl, rfl⟩) rfl rfl rfl rfl ?_
  refine EvQ.geo (gs_1 L) rfl ?_
  refine ev_aload_n rfl rfl rfl ?_
  refine ev_new (kc := 59) (ks := 1483) rfl rfl cl_X9_7 rfl rfl (fun j => ev_Z.at (hz_boil (hz.up (m := 3) rfl) rfl) 3 j rfl) ?_
  refine ev_dup rfl rfl rfl ?_
  refine ev_IN0 (kc := 59) (ks := 1483) rfl rfl lk_X9_9 in_X1_init rfl rfl (c_Boiler_init _ _ 3 rfl rfl (ev_Z.at (hz_boil (hz.up (m := 3) rfl) rfl) 3 4 rfl)) ?_
  rintro G' h' ⟨-, rfl, rfl⟩
  refine ev_putR rfl rfl fl_X9_16 (Or.inr ⟨rfl, _, rfl, rfl⟩) rfl rfl rfl rfl ?_
  refine EvQ.geo (gs_2 L) rfl ?_
  refine ev_aload_n rfl rfl rfl ?_
  refine ev_new (kc := 58) (ks := 1475) rfl rfl cl_X9_19 rfl rfl (fun j => ev_Z.at (hz_boil (hz_boil (hz.up (m := 4) rfl) rfl) rfl) 4 j rfl) ?_
  refine EvQ.geo (gb_4 L) rfl ?_
  refine ev_dup rfl rfl rfl ?_
  refine ev_IN0 (kc := 52) (ks := 1403) rfl rfl lk_X9_21 in_X8_init rfl rfl (c_Whistles_init L _ (hz_boil (hz_boil (hz.up (m := 4) rfl) rfl) rfl)) ?_
  rintro G' h' ⟨-, rfl, rfl⟩
  refine ev_putR rfl rfl fl_X9_22 (Or.inr ⟨rfl, _, rfl, rfl⟩) rfl rfl rfl rfl ?_
  refine EvQ.geo (gs_3 L) rfl ?_
  refine ev_aload_n rfl rfl rfl ?_
  refine ev_new (kc := 51) (ks := 1399) rfl rfl cl_X9_26 rfl rfl (fun j => ev_Z.at (hz_Whistles (ev_Z.up (m := 11) (hz_boil (hz_boil (hz.up (m := 4) rfl) rfl) rfl) rfl)) 11 j rfl) ?_
  refine EvQ.geo (gb_11 L) rfl ?_
  refine ev_dup rfl rfl rfl ?_
  refine ev_IN0 (kc := 40) (ks := 1089) rfl rfl lk_X9_28 in_X0_init rfl rfl (c_Acts_init L _ (hz_Whistles (ev_Z.up (m := 11) (hz_boil (hz_boil (hz.up (m := 4) rfl) rfl) rfl) rfl))) ?_
  rintro G' h' ⟨-, rfl, rfl⟩
  refine ev_putR rfl rfl fl_X9_29 (Or.inr ⟨rfl, _, rfl, rfl⟩) rfl rfl rfl rfl ?_
  refine EvQ.geo (gs_4 L) rfl ?_
  refine ev_aload_n rfl rfl rfl ?_
  refine ev_new (kc := 39) (ks := 1075) rfl rfl cl_X9_33 rfl rfl (fun j => ev_Z.at (hz_Acts (ev_Z.up (m := 23) (hz_Whistles (ev_Z.up (m := 11) (hz_boil (hz_boil (hz.up (m := 4) rfl) rfl) rfl) rfl)) rfl)) 23 j rfl) ?_
  refine EvQ.geo (gb_23 L) rfl ?_
  refine ev_dup rfl rfl rfl ?_
  refine ev_IN0 (kc := 35) (ks := 883) rfl rfl lk_X9_35 in_X2_init rfl rfl (c_Reader_init L _ (hz_Acts (ev_Z.up (m := 23) (hz_Whistles (ev_Z.up (m := 11) (hz_boil (hz_boil (hz.up (m := 4) rfl) rfl) rfl) rfl)) rfl))) ?_
  rintro G' h' ⟨-, rfl, rfl⟩
  refine ev_putR rfl rfl fl_X9_36 (Or.inr ⟨rfl, _, rfl, rfl⟩) rfl rfl rfl rfl ?_
  refine EvQ.geo (gs_5 L) rfl ?_
  refine ev_aload_n rfl rfl rfl ?_
  refine ev_new (kc := 34) (ks := 880) rfl rfl cl_X9_40 rfl rfl (fun j => ev_Z.at (hz_Reader (ev_Z.up (m := 28) (hz_Acts (ev_Z.up (m := 23) (hz_Whistles (ev_Z.up (m := 11) (hz_boil (hz_boil (hz.up (m := 4) rfl) rfl) rfl) rfl)) rfl)) rfl)) 28 j rfl) ?_
  refine EvQ.geo (gb_28 L) rfl ?_
  refine ev_dup rfl rfl rfl ?_
  refine ev_IN0 (kc := 26) (ks := 724) rfl rfl lk_X9_42 in_X7_init rfl rfl (c_Tunes_init L _ (hz_Reader (ev_Z.up (m := 28) (hz_Acts (ev_Z.up (m := 23) (hz_Whistles (ev_Z.up (m := 11) (hz_boil (hz_boil (hz.up (m := 4) rfl) rfl) rfl) rfl)) rfl)) rfl))) ?_
  rintro G' h' ⟨-, rfl, rfl⟩
  refine ev_putR rfl rfl fl_X9_43 (Or.inr ⟨rfl, _, rfl, rfl⟩) rfl rfl rfl rfl ?_
  refine EvQ.geo (gs_6 L) rfl ?_
  refine ev_aload_n rfl rfl rfl ?_
  refine ev_new (kc := 25) (ks := 708) rfl rfl cl_X9_47 rfl rfl (fun j => ev_Z.at (hz_Tunes (ev_Z.up (m := 37) (hz_Reader (ev_Z.up (m := 28) (hz_Acts (ev_Z.up (m := 23) (hz_Whistles (ev_Z.up (m := 11) (hz_boil (hz_boil (hz.up (m := 4) rfl) rfl) rfl) rfl)) rfl)) rfl)) rfl)) 37 j rfl) ?_
  refine EvQ.geo (gb_37 L) rfl ?_
  refine ev_dup rfl rfl rfl ?_
  refine ev_IN0 (kc := 18) (ks := 366) rfl rfl lk_X9_49 in_X4_init rfl rfl (c_Setting_init L _ (hz_Tunes (ev_Z.up (m := 37) (hz_Reader (ev_Z.up (m := 28) (hz_Acts (ev_Z.up (m := 23) (hz_Whistles (ev_Z.up (m := 11) (hz_boil (hz_boil (hz.up (m := 4) rfl) rfl) rfl) rfl)) rfl)) rfl)) rfl))) ?_
  rintro G' h' ⟨-, rfl, rfl⟩
  refine ev_putR rfl rfl fl_X9_50 (Or.inr ⟨rfl, _, rfl, rfl⟩) rfl rfl rfl rfl ?_
  refine EvQ.geo (gs_7 L) rfl ?_
  refine ev_aload_n rfl rfl rfl ?_
  refine ev_new (kc := 17) (ks := 358) rfl rfl cl_X9_54 rfl rfl (fun j => ev_Z.at (hz_Setting (ev_Z.up (m := 45) (hz_Tunes (ev_Z.up (m := 37) (hz_Reader (ev_Z.up (m := 28) (hz_Acts (ev_Z.up (m := 23) (hz_Whistles (ev_Z.up (m := 11) (hz_boil (hz_boil (hz.up (m := 4) rfl) rfl) rfl) rfl)) rfl)) rfl)) rfl)) rfl)) 45 j rfl) ?_
  refine EvQ.geo (gb_45 L) rfl ?_
  refine ev_dup rfl rfl rfl ?_
  refine ev_IN0 (kc := 13) (ks := 286) rfl rfl lk_X9_56 in_X6_init rfl rfl (c_Suspects_init L _ (hz_Setting (ev_Z.up (m := 45) (hz_Tunes (ev_Z.up (m := 37) (hz_Reader (ev_Z.up (m := 28) (hz_Acts (ev_Z.up (m := 23) (hz_Whistles (ev_Z.up (m := 11) (hz_boil (hz_boil (hz.up (m := 4) rfl) rfl) rfl) rfl)) rfl)) rfl)) rfl)) rfl))) ?_
  rintro G' h' ⟨-, rfl, rfl⟩
  refine ev_putR rfl rfl fl_X9_57 (Or.inr ⟨rfl, _, rfl, rfl⟩) rfl rfl rfl rfl ?_
  refine EvQ.geo (gs_8 L) rfl ?_
  refine ev_aload_n rfl rfl rfl ?_
  refine ev_new (kc := 12) (ks := 275) rfl rfl cl_X9_61 rfl rfl (fun j => ev_Z.at (hz_Suspects (ev_Z.up (m := 50) (hz_Setting (ev_Z.up (m := 45) (hz_Tunes (ev_Z.up (m := 37) (hz_Reader (ev_Z.up (m := 28) (hz_Acts (ev_Z.up (m := 23) (hz_Whistles (ev_Z.up (m := 11) (hz_boil (hz_boil (hz.up (m := 4) rfl) rfl) rfl) rfl)) rfl)) rfl)) rfl)) rfl)) rfl)) 50 j rfl) ?_
  refine EvQ.geo (gb_50 L) rfl ?_
  refine ev_dup rfl rfl rfl ?_
  refine ev_IN0 (kc := 8) (ks := 255) rfl rfl lk_X9_63 in_X3_init rfl rfl (c_River_init L _ (hz_Suspects (ev_Z.up (m := 50) (hz_Setting (ev_Z.up (m := 45) (hz_Tunes (ev_Z.up (m := 37) (hz_Reader (ev_Z.up (m := 28) (hz_Acts (ev_Z.up (m := 23) (hz_Whistles (ev_Z.up (m := 11) (hz_boil (hz_boil (hz.up (m := 4) rfl) rfl) rfl) rfl)) rfl)) rfl)) rfl)) rfl)) rfl))) ?_
  rintro G' h' ⟨-, rfl, rfl⟩
  refine ev_putR rfl rfl fl_X9_64 (Or.inr ⟨rfl, _, rfl, rfl⟩) rfl rfl rfl rfl ?_
  refine EvQ.geo (gs_9 L) rfl ?_
  refine ev_aload_n rfl rfl rfl ?_
  refine ev_new (kc := 7) (ks := 252) rfl rfl cl_X9_68 rfl rfl (fun j => ev_Z.at (hz_River (ev_Z.up (m := 55) (hz_Suspects (ev_Z.up (m := 50) (hz_Setting (ev_Z.up (m := 45) (hz_Tunes (ev_Z.up (m := 37) (hz_Reader (ev_Z.up (m := 28) (hz_Acts (ev_Z.up (m := 23) (hz_Whistles (ev_Z.up (m := 11) (hz_boil (hz_boil (hz.up (m := 4) rfl) rfl) rfl) rfl)) rfl)) rfl)) rfl)) rfl)) rfl)) rfl)) 55 j rfl) ?_
  refine EvQ.geo (gb_55 L) rfl ?_
  refine ev_dup rfl rfl rfl ?_
  refine ev_IN0 (kc := 0) (ks := 0) rfl rfl lk_X9_70 in_X5_init rfl rfl (c_Sheets_init L _ (hz_River (ev_Z.up (m := 55) (hz_Suspects (ev_Z.up (m := 50) (hz_Setting (ev_Z.up (m := 45) (hz_Tunes (ev_Z.up (m := 37) (hz_Reader (ev_Z.up (m := 28) (hz_Acts (ev_Z.up (m := 23) (hz_Whistles (ev_Z.up (m := 11) (hz_boil (hz_boil (hz.up (m := 4) rfl) rfl) rfl) rfl)) rfl)) rfl)) rfl)) rfl)) rfl)) rfl))) ?_
  rintro G' h' ⟨-, rfl, rfl⟩
  refine ev_putR rfl rfl fl_X9_71 (Or.inr ⟨rfl, _, rfl, rfl⟩) rfl rfl rfl rfl ?_
  refine EvQ.geo (gs_10 L) rfl ?_
  exact ev_vret rfl rfl trivial (⟨rfl, rfl, rfl⟩)

