theorem gwl_in0 {w : Cond} (i : Nat) (h : (k2_sels lw_privs)[i]? = some w) (g : goodWord w = true) : w ∈ gwl := List.mem_filter.mpr ⟨List.mem_append_left _ (List.mem_of_getElem? h), g⟩
theorem gwl_in1 {w : Cond} (i : Nat) (h : tables_1_1[i]? = some w) (g : goodWord w = true) : w ∈ gwl := List.mem_filter.mpr ⟨List.mem_append_right _ (List.mem_append_left _ (List.mem_of_getElem? h)), g⟩
theorem gwl_in2 {w : Cond} (i : Nat) (h : tables_1_2[i]? = some w) (g : goodWord w = true) : w ∈ gwl := List.mem_filter.mpr ⟨List.mem_append_right _ (List.mem_append_right _ (List.mem_append_left _ (List.mem_of_getElem? h))), g⟩
theorem gwl_in3 {w : Cond} (i : Nat) (h : tables_1_3[i]? = some w) (g : goodWord w = true) : w ∈ gwl := List.mem_filter.mpr ⟨List.mem_append_right _ (List.mem_append_right _ (List.mem_append_right _ (List.mem_append_left _ (List.mem_of_getElem? h)))), g⟩
theorem gwl_in4 {w : Cond} (i : Nat) (h : tables_1_4[i]? = some w) (g : goodWord w = true) : w ∈ gwl := List.mem_filter.mpr ⟨List.mem_append_right _ (List.mem_append_right _ (List.mem_append_right _ (List.mem_append_right _ (List.mem_append_left _ (List.mem_of_getElem? h))))), g⟩
theorem gwl_in5 {w : Cond} (i : Nat) (h : tables_1_5[i]? = some w) (g : goodWord w = true) : w ∈ gwl := List.mem_filter.mpr ⟨List.mem_append_right _ (List.mem_append_right _ (List.mem_append_right _ (List.mem_append_right _ (List.mem_append_right _ (List.mem_append_left _ (List.mem_of_getElem? h)))))), g⟩
theorem gwl_in6 {w : Cond} (i : Nat) (h : tables_1_6[i]? = some w) (g : goodWord w = true) : w ∈ gwl := List.mem_filter.mpr ⟨List.mem_append_right _ (List.mem_append_right _ (List.mem_append_right _ (List.mem_append_right _ (List.mem_append_right _ (List.mem_append_right _ (List.mem_of_getElem? h)))))), g⟩
set_option maxRecDepth 100000 in
theorem lay_X0 : ∀ w ∈ u_ws RX0 TX0 4, w ∈ gwl := gwl_all _ [185, 187, 189, 191] (by decide +kernel) (by decide +kernel)
theorem dft_X0 : ∀ j, j < 4 → (tyCl 0 j).isReference = true ∨ defaultValue (tyCl 0 j) = .int 0 := by decide +kernel
set_option maxRecDepth 100000 in
theorem lay_X1 : ∀ w ∈ u_ws RX1 TX1 5, w ∈ gwl := gwl_all _ [111, 113, 115, 117, 119] (by decide +kernel) (by decide +kernel)
theorem dft_X1 : ∀ j, j < 5 → (tyCl 1 j).isReference = true ∨ defaultValue (tyCl 1 j) = .int 0 := by decide +kernel
set_option maxRecDepth 100000 in
theorem lay_X2 : ∀ w ∈ u_ws RX2 TX2 14, w ∈ gwl := gwl_all _ [219, 221, 223, 225, 227, 229, 231, 233, 235, 237, 239, 241, 243, 245] (by decide +kernel) (by decide +kernel)
theorem dft_X2 : ∀ j, j < 14 → (tyCl 2 j).isReference = true ∨ defaultValue (tyCl 2 j) = .int 0 := by decide +kernel
set_option maxRecDepth 100000 in
theorem lay_X3 : ∀ w ∈ u_ws RX3 TX3 11, w ∈ gwl := gwl_all _ [380, 382, 384, 386, 388, 390, 392, 394, 396, 398, 400] (by decide +kernel) (by decide +kernel)
theorem dft_X3 : ∀ j, j < 11 → (tyCl 3 j).isReference = true ∨ defaultValue (tyCl 3 j) = .int 0 := by decide +kernel
set_option maxRecDepth 100000 in
theorem lay_X4 : ∀ w ∈ u_ws RX4 TX4 16, w ∈ gwl := gwl_all _ [292, 294, 296, 298, 300, 302, 304, 306, 308, 310, 312, 314, 316, 318, 320, 322] (by decide +kernel) (by decide +kernel)
theorem dft_X4 : ∀ j, j < 16 → (tyCl 4 j).isReference = true ∨ defaultValue (tyCl 4 j) = .int 0 := by decide +kernel
set_option maxRecDepth 100000 in
theorem lay_X5 : ∀ w ∈ u_ws RX5 TX5 3, w ∈ gwl := gwl_all _ [415, 417, 419] (by decide +kernel) (by decide +kernel)
theorem dft_X5 : ∀ j, j < 3 → (tyCl 5 j).isReference = true ∨ defaultValue (tyCl 5 j) = .int 0 := by decide +kernel
set_option maxRecDepth 100000 in
theorem lay_X6 : ∀ w ∈ u_ws RX6 TX6 8, w ∈ gwl := gwl_all _ [339, 341, 343, 345, 347, 349, 351, 353] (by decide +kernel) (by decide +kernel)
theorem dft_X6 : ∀ j, j < 8 → (tyCl 6 j).isReference = true ∨ defaultValue (tyCl 6 j) = .int 0 := by decide +kernel
set_option maxRecDepth 100000 in
theorem lay_X7 : ∀ w ∈ u_ws RX7 TX7 3, w ∈ gwl := gwl_all _ [263, 265, 267] (by decide +kernel) (by decide +kernel)
theorem dft_X7 : ∀ j, j < 3 → (tyCl 7 j).isReference = true ∨ defaultValue (tyCl 7 j) = .int 0 := by decide +kernel
set_option maxRecDepth 100000 in
theorem lay_X8 : ∀ w ∈ u_ws RX8 TX8 8, w ∈ gwl := gwl_all _ [152, 154, 156, 158, 160, 162, 164, 166] (by decide +kernel) (by decide +kernel)
theorem dft_X8 : ∀ j, j < 8 → (tyCl 8 j).isReference = true ∨ defaultValue (tyCl 8 j) = .int 0 := by decide +kernel
set_option maxRecDepth 100000 in
theorem lay_X9 : ∀ w ∈ u_ws RX9 TX9 10, w ∈ gwl := gwl_all _ [432, 434, 436, 438, 440, 442, 444, 446, 448, 450] (by decide +kernel) (by decide +kernel)
theorem dft_X9 : ∀ j, j < 10 → (tyCl 9 j).isReference = true ∨ defaultValue (tyCl 9 j) = .int 0 := by decide +kernel
set_option maxRecDepth 100000 in
theorem lay_X10 : ∀ w ∈ u_ws RX10 TX10 55, w ∈ gwl := gwl_all _ [1061, 1063, 1065, 1067, 1069, 1071, 1073, 1075, 1077, 1079, 1081, 1083, 1085, 1087, 1089, 1091, 1093, 1095, 1097, 1099, 1101, 1103, 1105, 1107, 1109, 1111, 1113, 1115, 1117, 1119, 1121, 1123, 1125, 1127, 1129, 1131, 1133, 1135, 1137, 1139, 1141, 1143, 1145, 1147, 1149, 1151, 1153, 1155, 1157, 1159, 1161, 1163, 1165, 1167, 1169] (by decide +kernel) (by decide +kernel)
theorem dft_X10 : ∀ j, j < 55 → (tyCl 10 j).isReference = true ∨ defaultValue (tyCl 10 j) = .int 0 := by decide +kernel
set_option maxRecDepth 100000 in
theorem fl_X9_10 : ev_fl RX9 10 9 0 := ⟨(RX9, TX9, 10), rfl, by decide, lay_X9, gwl_in2 118 rfl rfl, tyX9_ok, nmX9⟩
set_option maxRecDepth 100000 in
theorem fl_X9_16 : ev_fl RX9 16 9 1 := ⟨(RX9, TX9, 10), rfl, by decide, lay_X9, gwl_in2 119 rfl rfl, tyX9_ok, nmX9⟩
set_option maxRecDepth 100000 in
theorem fl_X9_22 : ev_fl RX9 22 9 2 := ⟨(RX9, TX9, 10), rfl, by decide, lay_X9, gwl_in2 120 rfl rfl, tyX9_ok, nmX9⟩
set_option maxRecDepth 100000 in
theorem fl_X9_29 : ev_fl RX9 29 9 3 := ⟨(RX9, TX9, 10), rfl, by decide, lay_X9, gwl_in2 121 rfl rfl, tyX9_ok, nmX9⟩
set_option maxRecDepth 100000 in
theorem fl_X9_36 : ev_fl RX9 36 9 4 := ⟨(RX9, TX9, 10), rfl, by decide, lay_X9, gwl_in2 122 rfl rfl, tyX9_ok, nmX9⟩
set_option maxRecDepth 100000 in
theorem fl_X9_43 : ev_fl RX9 43 9 5 := ⟨(RX9, TX9, 10), rfl, by decide, lay_X9, gwl_in2 123 rfl rfl, tyX9_ok, nmX9⟩
set_option maxRecDepth 100000 in
theorem fl_X9_50 : ev_fl RX9 50 9 6 := ⟨(RX9, TX9, 10), rfl, by decide, lay_X9, gwl_in2 124 rfl rfl, tyX9_ok, nmX9⟩
set_option maxRecDepth 100000 in
theorem fl_X9_57 : ev_fl RX9 57 9 7 := ⟨(RX9, TX9, 10), rfl, by decide, lay_X9, gwl_in2 125 rfl rfl, tyX9_ok, nmX9⟩
set_option maxRecDepth 100000 in
theorem fl_X9_64 : ev_fl RX9 64 9 8 := ⟨(RX9, TX9, 10), rfl, by decide, lay_X9, gwl_in2 126 rfl rfl, tyX9_ok, nmX9⟩
set_option maxRecDepth 100000 in
theorem fl_X9_71 : ev_fl RX9 71 9 9 := ⟨(RX9, TX9, 10), rfl, by decide, lay_X9, gwl_in2 127 rfl rfl, tyX9_ok, nmX9⟩
set_option maxRecDepth 100000 in
theorem fl_X9_83 : ev_fl RX9 83 1 2 := ⟨(RX1, TX1, 5), rfl, by decide, lay_X1, gwl_in1 39 rfl rfl, tyX1_ok, nmX1⟩
set_option maxRecDepth 100000 in
theorem fl_X9_87 : ev_fl RX9 87 1 1 := ⟨(RX1, TX1, 5), rfl, by decide, lay_X1, gwl_in1 36 rfl rfl, tyX1_ok, nmX1⟩
set_option maxRecDepth 100000 in
theorem fl_X9_96 : ev_fl RX9 96 1 3 := ⟨(RX1, TX1, 5), rfl, by decide, lay_X1, gwl_in1 42 rfl rfl, tyX1_ok, nmX1⟩
set_option maxRecDepth 100000 in
theorem fl_X9_99 : ev_fl RX9 99 1 0 := ⟨(RX1, TX1, 5), rfl, by decide, lay_X1, gwl_in1 32 rfl rfl, tyX1_ok, nmX1⟩
set_option maxRecDepth 100000 in
theorem fl_X9_102 : ev_fl RX9 102 1 4 := ⟨(RX1, TX1, 5), rfl, by decide, lay_X1, gwl_in1 46 rfl rfl, tyX1_ok, nmX1⟩
set_option maxRecDepth 100000 in
theorem fl_X9_105 : ev_fl RX9 105 8 6 := ⟨(RX8, TX8, 8), rfl, by decide, lay_X8, gwl_in1 83 rfl rfl, tyX8_ok, nmX8⟩
set_option maxRecDepth 100000 in
theorem fl_X9_129 : ev_fl RX9 129 8 0 := ⟨(RX8, TX8, 8), rfl, by decide, lay_X8, gwl_in1 66 rfl rfl, tyX8_ok, nmX8⟩
set_option maxRecDepth 100000 in
theorem fl_X9_133 : ev_fl RX9 133 8 1 := ⟨(RX8, TX8, 8), rfl, by decide, lay_X8, gwl_in1 68 rfl rfl, tyX8_ok, nmX8⟩
set_option maxRecDepth 100000 in
theorem fl_X9_136 : ev_fl RX9 136 8 2 := ⟨(RX8, TX8, 8), rfl, by decide, lay_X8, gwl_in1 70 rfl rfl, tyX8_ok, nmX8⟩
set_option maxRecDepth 100000 in
theorem fl_X9_139 : ev_fl RX9 139 8 3 := ⟨(RX8, TX8, 8), rfl, by decide, lay_X8, gwl_in1 72 rfl rfl, tyX8_ok, nmX8⟩
set_option maxRecDepth 100000 in
theorem fl_X9_143 : ev_fl RX9 143 8 4 := ⟨(RX8, TX8, 8), rfl, by decide, lay_X8, gwl_in1 76 rfl rfl, tyX8_ok, nmX8⟩
set_option maxRecDepth 100000 in
theorem fl_X9_146 : ev_fl RX9 146 8 5 := ⟨(RX8, TX8, 8), rfl, by decide, lay_X8, gwl_in1 79 rfl rfl, tyX8_ok, nmX8⟩
set_option maxRecDepth 100000 in
theorem fl_X9_158 : ev_fl RX9 158 8 7 := ⟨(RX8, TX8, 8), rfl, by decide, lay_X8, gwl_in1 87 rfl rfl, tyX8_ok, nmX8⟩
set_option maxRecDepth 100000 in
theorem fl_X9_173 : ev_fl RX9 173 2 1 := ⟨(RX2, TX2, 14), rfl, by decide, lay_X2, gwl_in1 138 rfl rfl, tyX2_ok, nmX2⟩
set_option maxRecDepth 100000 in
theorem fl_X9_176 : ev_fl RX9 176 7 2 := ⟨(RX7, TX7, 3), rfl, by decide, lay_X7, gwl_in1 198 rfl rfl, tyX7_ok, nmX7⟩
set_option maxRecDepth 100000 in
theorem fl_X9_180 : ev_fl RX9 180 2 7 := ⟨(RX2, TX2, 14), rfl, by decide, lay_X2, gwl_in1 145 rfl rfl, tyX2_ok, nmX2⟩
set_option maxRecDepth 100000 in
theorem fl_X9_183 : ev_fl RX9 183 2 8 := ⟨(RX2, TX2, 14), rfl, by decide, lay_X2, gwl_in1 147 rfl rfl, tyX2_ok, nmX2⟩
set_option maxRecDepth 100000 in
theorem fl_X9_186 : ev_fl RX9 186 2 9 := ⟨(RX2, TX2, 14), rfl, by decide, lay_X2, gwl_in1 149 rfl rfl, tyX2_ok, nmX2⟩
set_option maxRecDepth 100000 in
theorem fl_X9_189 : ev_fl RX9 189 2 10 := ⟨(RX2, TX2, 14), rfl, by decide, lay_X2, gwl_in1 151 rfl rfl, tyX2_ok, nmX2⟩
set_option maxRecDepth 100000 in
theorem fl_X9_196 : ev_fl RX9 196 7 1 := ⟨(RX7, TX7, 3), rfl, by decide, lay_X7, gwl_in1 196 rfl rfl, tyX7_ok, nmX7⟩
set_option maxRecDepth 100000 in
theorem fl_X9_213 : ev_fl RX9 213 7 0 := ⟨(RX7, TX7, 3), rfl, by decide, lay_X7, gwl_in1 193 rfl rfl, tyX7_ok, nmX7⟩
set_option maxRecDepth 100000 in
theorem fl_X9_233 : ev_fl RX9 233 0 3 := ⟨(RX0, TX0, 4), rfl, by decide, lay_X0, gwl_in1 120 rfl rfl, tyX0_ok, nmX0⟩
set_option maxRecDepth 100000 in
theorem fl_X9_283 : ev_fl RX9 283 3 6 := ⟨(RX3, TX3, 11), rfl, by decide, lay_X3, gwl_in2 67 rfl rfl, tyX3_ok, nmX3⟩
set_option maxRecDepth 100000 in
theorem fl_X9_299 : ev_fl RX9 299 3 7 := ⟨(RX3, TX3, 11), rfl, by decide, lay_X3, gwl_in2 69 rfl rfl, tyX3_ok, nmX3⟩
set_option maxRecDepth 100000 in
theorem fl_X9_302 : ev_fl RX9 302 3 8 := ⟨(RX3, TX3, 11), rfl, by decide, lay_X3, gwl_in2 71 rfl rfl, tyX3_ok, nmX3⟩
set_option maxRecDepth 100000 in
theorem fl_X9_305 : ev_fl RX9 305 3 9 := ⟨(RX3, TX3, 11), rfl, by decide, lay_X3, gwl_in2 73 rfl rfl, tyX3_ok, nmX3⟩
set_option maxRecDepth 100000 in
theorem fl_X9_308 : ev_fl RX9 308 3 10 := ⟨(RX3, TX3, 11), rfl, by decide, lay_X3, gwl_in2 75 rfl rfl, tyX3_ok, nmX3⟩
set_option maxRecDepth 100000 in
theorem fl_X9_315 : ev_fl RX9 315 0 2 := ⟨(RX0, TX0, 4), rfl, by decide, lay_X0, gwl_in1 118 rfl rfl, tyX0_ok, nmX0⟩
set_option maxRecDepth 100000 in
theorem fl_X9_335 : ev_fl RX9 335 3 2 := ⟨(RX3, TX3, 11), rfl, by decide, lay_X3, gwl_in2 61 rfl rfl, tyX3_ok, nmX3⟩
set_option maxRecDepth 100000 in
theorem fl_X9_338 : ev_fl RX9 338 3 5 := ⟨(RX3, TX3, 11), rfl, by decide, lay_X3, gwl_in2 65 rfl rfl, tyX3_ok, nmX3⟩
set_option maxRecDepth 100000 in
theorem fl_X9_349 : ev_fl RX9 349 5 2 := ⟨(RX5, TX5, 3), rfl, by decide, lay_X5, gwl_in2 110 rfl rfl, tyX5_ok, nmX5⟩
set_option maxRecDepth 100000 in
theorem fl_X9_362 : ev_fl RX9 362 5 0 := ⟨(RX5, TX5, 3), rfl, by decide, lay_X5, gwl_in2 107 rfl rfl, tyX5_ok, nmX5⟩
set_option maxRecDepth 100000 in
theorem fl_X0_13 : ev_fl RX0 13 0 0 := ⟨(RX0, TX0, 4), rfl, by decide, lay_X0, gwl_in1 115 rfl rfl, tyX0_ok, nmX0⟩
set_option maxRecDepth 100000 in
theorem fl_X0_16 : ev_fl RX0 16 0 1 := ⟨(RX0, TX0, 4), rfl, by decide, lay_X0, gwl_in1 116 rfl rfl, tyX0_ok, nmX0⟩
set_option maxRecDepth 100000 in
theorem fl_X0_20 : ev_fl RX0 20 0 2 := ⟨(RX0, TX0, 4), rfl, by decide, lay_X0, gwl_in1 117 rfl rfl, tyX0_ok, nmX0⟩
set_option maxRecDepth 100000 in
theorem fl_X0_23 : ev_fl RX0 23 0 3 := ⟨(RX0, TX0, 4), rfl, by decide, lay_X0, gwl_in1 119 rfl rfl, tyX0_ok, nmX0⟩
set_option maxRecDepth 100000 in
theorem fl_X0_26 : ev_fl RX0 26 1 0 := ⟨(RX1, TX1, 5), rfl, by decide, lay_X1, gwl_in1 31 rfl rfl, tyX1_ok, nmX1⟩
set_option maxRecDepth 100000 in
theorem fl_X0_31 : ev_fl RX0 31 1 1 := ⟨(RX1, TX1, 5), rfl, by decide, lay_X1, gwl_in1 35 rfl rfl, tyX1_ok, nmX1⟩
set_option maxRecDepth 100000 in
theorem fl_X0_34 : ev_fl RX0 34 1 2 := ⟨(RX1, TX1, 5), rfl, by decide, lay_X1, gwl_in1 38 rfl rfl, tyX1_ok, nmX1⟩
set_option maxRecDepth 100000 in
theorem fl_X0_37 : ev_fl RX0 37 1 3 := ⟨(RX1, TX1, 5), rfl, by decide, lay_X1, gwl_in1 41 rfl rfl, tyX1_ok, nmX1⟩
set_option maxRecDepth 100000 in
theorem fl_X0_40 : ev_fl RX0 40 1 4 := ⟨(RX1, TX1, 5), rfl, by decide, lay_X1, gwl_in1 45 rfl rfl, tyX1_ok, nmX1⟩
set_option maxRecDepth 100000 in
theorem fl_X0_43 : ev_fl RX0 43 8 6 := ⟨(RX8, TX8, 8), rfl, by decide, lay_X8, gwl_in1 81 rfl rfl, tyX8_ok, nmX8⟩
set_option maxRecDepth 100000 in
theorem fl_X0_48 : ev_fl RX0 48 8 4 := ⟨(RX8, TX8, 8), rfl, by decide, lay_X8, gwl_in1 74 rfl rfl, tyX8_ok, nmX8⟩
set_option maxRecDepth 100000 in
theorem fl_X0_58 : ev_fl RX0 58 8 5 := ⟨(RX8, TX8, 8), rfl, by decide, lay_X8, gwl_in1 78 rfl rfl, tyX8_ok, nmX8⟩
set_option maxRecDepth 100000 in
theorem fl_X1_7 : ev_fl RX1 7 1 0 := ⟨(RX1, TX1, 5), rfl, by decide, lay_X1, gwl_in1 30 rfl rfl, tyX1_ok, nmX1⟩
set_option maxRecDepth 100000 in
theorem fl_X1_13 : ev_fl RX1 13 1 1 := ⟨(RX1, TX1, 5), rfl, by decide, lay_X1, gwl_in1 34 rfl rfl, tyX1_ok, nmX1⟩
set_option maxRecDepth 100000 in
theorem fl_X1_16 : ev_fl RX1 16 1 2 := ⟨(RX1, TX1, 5), rfl, by decide, lay_X1, gwl_in1 37 rfl rfl, tyX1_ok, nmX1⟩
set_option maxRecDepth 100000 in
theorem fl_X1_19 : ev_fl RX1 19 1 3 := ⟨(RX1, TX1, 5), rfl, by decide, lay_X1, gwl_in1 40 rfl rfl, tyX1_ok, nmX1⟩
set_option maxRecDepth 100000 in
theorem fl_X1_22 : ev_fl RX1 22 1 4 := ⟨(RX1, TX1, 5), rfl, by decide, lay_X1, gwl_in1 44 rfl rfl, tyX1_ok, nmX1⟩
set_option maxRecDepth 100000 in
theorem fl_X2_11 : ev_fl RX2 11 2 0 := ⟨(RX2, TX2, 14), rfl, by decide, lay_X2, gwl_in1 136 rfl rfl, tyX2_ok, nmX2⟩
set_option maxRecDepth 100000 in
theorem fl_X2_15 : ev_fl RX2 15 2 1 := ⟨(RX2, TX2, 14), rfl, by decide, lay_X2, gwl_in1 137 rfl rfl, tyX2_ok, nmX2⟩
set_option maxRecDepth 100000 in
theorem fl_X2_19 : ev_fl RX2 19 2 2 := ⟨(RX2, TX2, 14), rfl, by decide, lay_X2, gwl_in1 139 rfl rfl, tyX2_ok, nmX2⟩
set_option maxRecDepth 100000 in
theorem fl_X2_22 : ev_fl RX2 22 2 3 := ⟨(RX2, TX2, 14), rfl, by decide, lay_X2, gwl_in1 140 rfl rfl, tyX2_ok, nmX2⟩
set_option maxRecDepth 100000 in
theorem fl_X2_25 : ev_fl RX2 25 2 4 := ⟨(RX2, TX2, 14), rfl, by decide, lay_X2, gwl_in1 141 rfl rfl, tyX2_ok, nmX2⟩
set_option maxRecDepth 100000 in
theorem fl_X2_28 : ev_fl RX2 28 2 5 := ⟨(RX2, TX2, 14), rfl, by decide, lay_X2, gwl_in1 142 rfl rfl, tyX2_ok, nmX2⟩
set_option maxRecDepth 100000 in
theorem fl_X2_31 : ev_fl RX2 31 2 6 := ⟨(RX2, TX2, 14), rfl, by decide, lay_X2, gwl_in1 143 rfl rfl, tyX2_ok, nmX2⟩
set_option maxRecDepth 100000 in
theorem fl_X2_34 : ev_fl RX2 34 2 7 := ⟨(RX2, TX2, 14), rfl, by decide, lay_X2, gwl_in1 144 rfl rfl, tyX2_ok, nmX2⟩
set_option maxRecDepth 100000 in
theorem fl_X2_37 : ev_fl RX2 37 2 8 := ⟨(RX2, TX2, 14), rfl, by decide, lay_X2, gwl_in1 146 rfl rfl, tyX2_ok, nmX2⟩
set_option maxRecDepth 100000 in
theorem fl_X2_40 : ev_fl RX2 40 2 9 := ⟨(RX2, TX2, 14), rfl, by decide, lay_X2, gwl_in1 148 rfl rfl, tyX2_ok, nmX2⟩
set_option maxRecDepth 100000 in
theorem fl_X2_44 : ev_fl RX2 44 2 10 := ⟨(RX2, TX2, 14), rfl, by decide, lay_X2, gwl_in1 150 rfl rfl, tyX2_ok, nmX2⟩
set_option maxRecDepth 100000 in
theorem fl_X2_47 : ev_fl RX2 47 2 11 := ⟨(RX2, TX2, 14), rfl, by decide, lay_X2, gwl_in1 152 rfl rfl, tyX2_ok, nmX2⟩
set_option maxRecDepth 100000 in
theorem fl_X2_50 : ev_fl RX2 50 2 12 := ⟨(RX2, TX2, 14), rfl, by decide, lay_X2, gwl_in1 153 rfl rfl, tyX2_ok, nmX2⟩
set_option maxRecDepth 100000 in
theorem fl_X2_53 : ev_fl RX2 53 2 13 := ⟨(RX2, TX2, 14), rfl, by decide, lay_X2, gwl_in1 154 rfl rfl, tyX2_ok, nmX2⟩
set_option maxRecDepth 100000 in
theorem fl_X3_11 : ev_fl RX3 11 3 0 := ⟨(RX3, TX3, 11), rfl, by decide, lay_X3, gwl_in2 58 rfl rfl, tyX3_ok, nmX3⟩
set_option maxRecDepth 100000 in
theorem fl_X3_15 : ev_fl RX3 15 3 1 := ⟨(RX3, TX3, 11), rfl, by decide, lay_X3, gwl_in2 59 rfl rfl, tyX3_ok, nmX3⟩
set_option maxRecDepth 100000 in
theorem fl_X3_18 : ev_fl RX3 18 3 2 := ⟨(RX3, TX3, 11), rfl, by decide, lay_X3, gwl_in2 60 rfl rfl, tyX3_ok, nmX3⟩
set_option maxRecDepth 100000 in
theorem fl_X3_22 : ev_fl RX3 22 3 3 := ⟨(RX3, TX3, 11), rfl, by decide, lay_X3, gwl_in2 62 rfl rfl, tyX3_ok, nmX3⟩
set_option maxRecDepth 100000 in
theorem fl_X3_25 : ev_fl RX3 25 3 4 := ⟨(RX3, TX3, 11), rfl, by decide, lay_X3, gwl_in2 63 rfl rfl, tyX3_ok, nmX3⟩
set_option maxRecDepth 100000 in
theorem fl_X3_28 : ev_fl RX3 28 3 5 := ⟨(RX3, TX3, 11), rfl, by decide, lay_X3, gwl_in2 64 rfl rfl, tyX3_ok, nmX3⟩
set_option maxRecDepth 100000 in
theorem fl_X3_31 : ev_fl RX3 31 3 6 := ⟨(RX3, TX3, 11), rfl, by decide, lay_X3, gwl_in2 66 rfl rfl, tyX3_ok, nmX3⟩
set_option maxRecDepth 100000 in
theorem fl_X3_34 : ev_fl RX3 34 3 7 := ⟨(RX3, TX3, 11), rfl, by decide, lay_X3, gwl_in2 68 rfl rfl, tyX3_ok, nmX3⟩
set_option maxRecDepth 100000 in
theorem fl_X3_37 : ev_fl RX3 37 3 8 := ⟨(RX3, TX3, 11), rfl, by decide, lay_X3, gwl_in2 70 rfl rfl, tyX3_ok, nmX3⟩
set_option maxRecDepth 100000 in
theorem fl_X3_40 : ev_fl RX3 40 3 9 := ⟨(RX3, TX3, 11), rfl, by decide, lay_X3, gwl_in2 72 rfl rfl, tyX3_ok, nmX3⟩
set_option maxRecDepth 100000 in
theorem fl_X3_43 : ev_fl RX3 43 3 10 := ⟨(RX3, TX3, 11), rfl, by decide, lay_X3, gwl_in2 74 rfl rfl, tyX3_ok, nmX3⟩
set_option maxRecDepth 100000 in
theorem fl_X4_9 : ev_fl RX4 9 4 0 := ⟨(RX4, TX4, 16), rfl, by decide, lay_X4, gwl_in1 212 rfl rfl, tyX4_ok, nmX4⟩
set_option maxRecDepth 100000 in
theorem fl_X4_15 : ev_fl RX4 15 4 1 := ⟨(RX4, TX4, 16), rfl, by decide, lay_X4, gwl_in1 213 rfl rfl, tyX4_ok, nmX4⟩
set_option maxRecDepth 100000 in
theorem fl_X4_18 : ev_fl RX4 18 4 2 := ⟨(RX4, TX4, 16), rfl, by decide, lay_X4, gwl_in1 214 rfl rfl, tyX4_ok, nmX4⟩
set_option maxRecDepth 100000 in
theorem fl_X4_21 : ev_fl RX4 21 4 3 := ⟨(RX4, TX4, 16), rfl, by decide, lay_X4, gwl_in1 215 rfl rfl, tyX4_ok, nmX4⟩
set_option maxRecDepth 100000 in
theorem fl_X4_25 : ev_fl RX4 25 4 4 := ⟨(RX4, TX4, 16), rfl, by decide, lay_X4, gwl_in1 216 rfl rfl, tyX4_ok, nmX4⟩
set_option maxRecDepth 100000 in
theorem fl_X4_28 : ev_fl RX4 28 4 5 := ⟨(RX4, TX4, 16), rfl, by decide, lay_X4, gwl_in1 217 rfl rfl, tyX4_ok, nmX4⟩
set_option maxRecDepth 100000 in
theorem fl_X4_31 : ev_fl RX4 31 4 6 := ⟨(RX4, TX4, 16), rfl, by decide, lay_X4, gwl_in1 218 rfl rfl, tyX4_ok, nmX4⟩
set_option maxRecDepth 100000 in
theorem fl_X4_34 : ev_fl RX4 34 4 7 := ⟨(RX4, TX4, 16), rfl, by decide, lay_X4, gwl_in1 219 rfl rfl, tyX4_ok, nmX4⟩
set_option maxRecDepth 100000 in
theorem fl_X4_37 : ev_fl RX4 37 4 8 := ⟨(RX4, TX4, 16), rfl, by decide, lay_X4, gwl_in1 220 rfl rfl, tyX4_ok, nmX4⟩
set_option maxRecDepth 100000 in
theorem fl_X4_40 : ev_fl RX4 40 4 9 := ⟨(RX4, TX4, 16), rfl, by decide, lay_X4, gwl_in1 221 rfl rfl, tyX4_ok, nmX4⟩
set_option maxRecDepth 100000 in
theorem fl_X4_43 : ev_fl RX4 43 4 10 := ⟨(RX4, TX4, 16), rfl, by decide, lay_X4, gwl_in1 222 rfl rfl, tyX4_ok, nmX4⟩
set_option maxRecDepth 100000 in
theorem fl_X4_46 : ev_fl RX4 46 4 11 := ⟨(RX4, TX4, 16), rfl, by decide, lay_X4, gwl_in1 223 rfl rfl, tyX4_ok, nmX4⟩
set_option maxRecDepth 100000 in
theorem fl_X4_49 : ev_fl RX4 49 4 12 := ⟨(RX4, TX4, 16), rfl, by decide, lay_X4, gwl_in1 224 rfl rfl, tyX4_ok, nmX4⟩
set_option maxRecDepth 100000 in
theorem fl_X4_52 : ev_fl RX4 52 4 13 := ⟨(RX4, TX4, 16), rfl, by decide, lay_X4, gwl_in1 225 rfl rfl, tyX4_ok, nmX4⟩
set_option maxRecDepth 100000 in
theorem fl_X4_55 : ev_fl RX4 55 4 14 := ⟨(RX4, TX4, 16), rfl, by decide, lay_X4, gwl_in1 226 rfl rfl, tyX4_ok, nmX4⟩
set_option maxRecDepth 100000 in
theorem fl_X4_58 : ev_fl RX4 58 4 15 := ⟨(RX4, TX4, 16), rfl, by decide, lay_X4, gwl_in1 227 rfl rfl, tyX4_ok, nmX4⟩
set_option maxRecDepth 100000 in
theorem fl_X4_62 : ev_fl RX4 62 7 1 := ⟨(RX7, TX7, 3), rfl, by decide, lay_X7, gwl_in1 195 rfl rfl, tyX7_ok, nmX7⟩
set_option maxRecDepth 100000 in
theorem fl_X4_71 : ev_fl RX4 71 8 6 := ⟨(RX8, TX8, 8), rfl, by decide, lay_X8, gwl_in1 82 rfl rfl, tyX8_ok, nmX8⟩
set_option maxRecDepth 100000 in
theorem fl_X4_107 : ev_fl RX4 107 8 7 := ⟨(RX8, TX8, 8), rfl, by decide, lay_X8, gwl_in1 86 rfl rfl, tyX8_ok, nmX8⟩
set_option maxRecDepth 100000 in
theorem fl_X4_114 : ev_fl RX4 114 1 3 := ⟨(RX1, TX1, 5), rfl, by decide, lay_X1, gwl_in1 43 rfl rfl, tyX1_ok, nmX1⟩
set_option maxRecDepth 100000 in
theorem fl_X4_141 : ev_fl RX4 141 1 0 := ⟨(RX1, TX1, 5), rfl, by decide, lay_X1, gwl_in1 33 rfl rfl, tyX1_ok, nmX1⟩
set_option maxRecDepth 100000 in
theorem fl_X5_11 : ev_fl RX5 11 5 0 := ⟨(RX5, TX5, 3), rfl, by decide, lay_X5, gwl_in2 106 rfl rfl, tyX5_ok, nmX5⟩
set_option maxRecDepth 100000 in
theorem fl_X5_14 : ev_fl RX5 14 5 1 := ⟨(RX5, TX5, 3), rfl, by decide, lay_X5, gwl_in2 108 rfl rfl, tyX5_ok, nmX5⟩
set_option maxRecDepth 100000 in
theorem fl_X5_18 : ev_fl RX5 18 5 2 := ⟨(RX5, TX5, 3), rfl, by decide, lay_X5, gwl_in2 109 rfl rfl, tyX5_ok, nmX5⟩
set_option maxRecDepth 100000 in
theorem fl_X6_9 : ev_fl RX6 9 6 0 := ⟨(RX6, TX6, 8), rfl, by decide, lay_X6, gwl_in2 27 rfl rfl, tyX6_ok, nmX6⟩
set_option maxRecDepth 100000 in
theorem fl_X6_15 : ev_fl RX6 15 6 1 := ⟨(RX6, TX6, 8), rfl, by decide, lay_X6, gwl_in2 28 rfl rfl, tyX6_ok, nmX6⟩
set_option maxRecDepth 100000 in
theorem fl_X6_18 : ev_fl RX6 18 6 2 := ⟨(RX6, TX6, 8), rfl, by decide, lay_X6, gwl_in2 29 rfl rfl, tyX6_ok, nmX6⟩
set_option maxRecDepth 100000 in
theorem fl_X6_22 : ev_fl RX6 22 6 3 := ⟨(RX6, TX6, 8), rfl, by decide, lay_X6, gwl_in2 30 rfl rfl, tyX6_ok, nmX6⟩
set_option maxRecDepth 100000 in
theorem fl_X6_25 : ev_fl RX6 25 6 4 := ⟨(RX6, TX6, 8), rfl, by decide, lay_X6, gwl_in2 31 rfl rfl, tyX6_ok, nmX6⟩
set_option maxRecDepth 100000 in
theorem fl_X6_28 : ev_fl RX6 28 6 5 := ⟨(RX6, TX6, 8), rfl, by decide, lay_X6, gwl_in2 32 rfl rfl, tyX6_ok, nmX6⟩
set_option maxRecDepth 100000 in
theorem fl_X6_31 : ev_fl RX6 31 6 6 := ⟨(RX6, TX6, 8), rfl, by decide, lay_X6, gwl_in2 33 rfl rfl, tyX6_ok, nmX6⟩
set_option maxRecDepth 100000 in
theorem fl_X6_34 : ev_fl RX6 34 6 7 := ⟨(RX6, TX6, 8), rfl, by decide, lay_X6, gwl_in2 34 rfl rfl, tyX6_ok, nmX6⟩
set_option maxRecDepth 100000 in
theorem fl_X6_37 : ev_fl RX6 37 8 7 := ⟨(RX8, TX8, 8), rfl, by decide, lay_X8, gwl_in1 85 rfl rfl, tyX8_ok, nmX8⟩
set_option maxRecDepth 100000 in
theorem fl_X6_79 : ev_fl RX6 79 8 0 := ⟨(RX8, TX8, 8), rfl, by decide, lay_X8, gwl_in1 65 rfl rfl, tyX8_ok, nmX8⟩
set_option maxRecDepth 100000 in
theorem fl_X6_82 : ev_fl RX6 82 8 4 := ⟨(RX8, TX8, 8), rfl, by decide, lay_X8, gwl_in1 75 rfl rfl, tyX8_ok, nmX8⟩
set_option maxRecDepth 100000 in
theorem fl_X7_11 : ev_fl RX7 11 7 0 := ⟨(RX7, TX7, 3), rfl, by decide, lay_X7, gwl_in1 192 rfl rfl, tyX7_ok, nmX7⟩
set_option maxRecDepth 100000 in
theorem fl_X7_16 : ev_fl RX7 16 7 1 := ⟨(RX7, TX7, 3), rfl, by decide, lay_X7, gwl_in1 194 rfl rfl, tyX7_ok, nmX7⟩
set_option maxRecDepth 100000 in
theorem fl_X7_20 : ev_fl RX7 20 7 2 := ⟨(RX7, TX7, 3), rfl, by decide, lay_X7, gwl_in1 197 rfl rfl, tyX7_ok, nmX7⟩
set_option maxRecDepth 100000 in
theorem fl_X8_9 : ev_fl RX8 9 8 0 := ⟨(RX8, TX8, 8), rfl, by decide, lay_X8, gwl_in1 64 rfl rfl, tyX8_ok, nmX8⟩
set_option maxRecDepth 100000 in
theorem fl_X8_15 : ev_fl RX8 15 8 1 := ⟨(RX8, TX8, 8), rfl, by decide, lay_X8, gwl_in1 67 rfl rfl, tyX8_ok, nmX8⟩
set_option maxRecDepth 100000 in
theorem fl_X8_18 : ev_fl RX8 18 8 2 := ⟨(RX8, TX8, 8), rfl, by decide, lay_X8, gwl_in1 69 rfl rfl, tyX8_ok, nmX8⟩
set_option maxRecDepth 100000 in
theorem fl_X8_21 : ev_fl RX8 21 8 3 := ⟨(RX8, TX8, 8), rfl, by decide, lay_X8, gwl_in1 71 rfl rfl, tyX8_ok, nmX8⟩
set_option maxRecDepth 100000 in
theorem fl_X8_25 : ev_fl RX8 25 8 4 := ⟨(RX8, TX8, 8), rfl, by decide, lay_X8, gwl_in1 73 rfl rfl, tyX8_ok, nmX8⟩
set_option maxRecDepth 100000 in
theorem fl_X8_28 : ev_fl RX8 28 8 5 := ⟨(RX8, TX8, 8), rfl, by decide, lay_X8, gwl_in1 77 rfl rfl, tyX8_ok, nmX8⟩
set_option maxRecDepth 100000 in
theorem fl_X8_31 : ev_fl RX8 31 8 6 := ⟨(RX8, TX8, 8), rfl, by decide, lay_X8, gwl_in1 80 rfl rfl, tyX8_ok, nmX8⟩
set_option maxRecDepth 100000 in
theorem fl_X8_35 : ev_fl RX8 35 8 7 := ⟨(RX8, TX8, 8), rfl, by decide, lay_X8, gwl_in1 84 rfl rfl, tyX8_ok, nmX8⟩
set_option maxRecDepth 100000 in
theorem fl_X10_7 : ev_fl RX10 7 10 0 := ⟨(RX10, TX10, 55), rfl, by decide, lay_X10, gwl_in4 222 rfl rfl, tyX10_ok, nmX10⟩
set_option maxRecDepth 100000 in
theorem fl_X10_13 : ev_fl RX10 13 10 1 := ⟨(RX10, TX10, 55), rfl, by decide, lay_X10, gwl_in4 223 rfl rfl, tyX10_ok, nmX10⟩
set_option maxRecDepth 100000 in
theorem fl_X10_16 : ev_fl RX10 16 10 2 := ⟨(RX10, TX10, 55), rfl, by decide, lay_X10, gwl_in4 224 rfl rfl, tyX10_ok, nmX10⟩
set_option maxRecDepth 100000 in
theorem fl_X10_19 : ev_fl RX10 19 10 3 := ⟨(RX10, TX10, 55), rfl, by decide, lay_X10, gwl_in4 225 rfl rfl, tyX10_ok, nmX10⟩
set_option maxRecDepth 100000 in
theorem fl_X10_22 : ev_fl RX10 22 10 6 := ⟨(RX10, TX10, 55), rfl, by decide, lay_X10, gwl_in4 228 rfl rfl, tyX10_ok, nmX10⟩
set_option maxRecDepth 100000 in
theorem fl_X10_26 : ev_fl RX10 26 10 7 := ⟨(RX10, TX10, 55), rfl, by decide, lay_X10, gwl_in4 229 rfl rfl, tyX10_ok, nmX10⟩
set_option maxRecDepth 100000 in
theorem fl_X10_29 : ev_fl RX10 29 10 8 := ⟨(RX10, TX10, 55), rfl, by decide, lay_X10, gwl_in4 230 rfl rfl, tyX10_ok, nmX10⟩
set_option maxRecDepth 100000 in
theorem fl_X10_32 : ev_fl RX10 32 10 9 := ⟨(RX10, TX10, 55), rfl, by decide, lay_X10, gwl_in4 231 rfl rfl, tyX10_ok, nmX10⟩
set_option maxRecDepth 100000 in
theorem fl_X10_36 : ev_fl RX10 36 10 10 := ⟨(RX10, TX10, 55), rfl, by decide, lay_X10, gwl_in4 232 rfl rfl, tyX10_ok, nmX10⟩
set_option maxRecDepth 100000 in
theorem fl_X10_39 : ev_fl RX10 39 10 11 := ⟨(RX10, TX10, 55), rfl, by decide, lay_X10, gwl_in4 233 rfl rfl, tyX10_ok, nmX10⟩
set_option maxRecDepth 100000 in
theorem fl_X10_42 : ev_fl RX10 42 10 12 := ⟨(RX10, TX10, 55), rfl, by decide, lay_X10, gwl_in4 234 rfl rfl, tyX10_ok, nmX10⟩
set_option maxRecDepth 100000 in
theorem fl_X10_45 : ev_fl RX10 45 10 14 := ⟨(RX10, TX10, 55), rfl, by decide, lay_X10, gwl_in4 236 rfl rfl, tyX10_ok, nmX10⟩
set_option maxRecDepth 100000 in
theorem fl_X10_48 : ev_fl RX10 48 10 15 := ⟨(RX10, TX10, 55), rfl, by decide, lay_X10, gwl_in4 237 rfl rfl, tyX10_ok, nmX10⟩
set_option maxRecDepth 100000 in
theorem fl_X10_51 : ev_fl RX10 51 10 24 := ⟨(RX10, TX10, 55), rfl, by decide, lay_X10, gwl_in5 6 rfl rfl, tyX10_ok, nmX10⟩
set_option maxRecDepth 100000 in
theorem fl_X10_54 : ev_fl RX10 54 10 25 := ⟨(RX10, TX10, 55), rfl, by decide, lay_X10, gwl_in5 7 rfl rfl, tyX10_ok, nmX10⟩
set_option maxRecDepth 100000 in
theorem fl_X10_57 : ev_fl RX10 57 10 26 := ⟨(RX10, TX10, 55), rfl, by decide, lay_X10, gwl_in5 8 rfl rfl, tyX10_ok, nmX10⟩
set_option maxRecDepth 100000 in
theorem fl_X10_60 : ev_fl RX10 60 10 29 := ⟨(RX10, TX10, 55), rfl, by decide, lay_X10, gwl_in5 11 rfl rfl, tyX10_ok, nmX10⟩
set_option maxRecDepth 100000 in
theorem fl_X10_63 : ev_fl RX10 63 10 30 := ⟨(RX10, TX10, 55), rfl, by decide, lay_X10, gwl_in5 12 rfl rfl, tyX10_ok, nmX10⟩
set_option maxRecDepth 100000 in
theorem fl_X10_67 : ev_fl RX10 67 10 32 := ⟨(RX10, TX10, 55), rfl, by decide, lay_X10, gwl_in5 14 rfl rfl, tyX10_ok, nmX10⟩
set_option maxRecDepth 100000 in
theorem fl_X10_70 : ev_fl RX10 70 10 33 := ⟨(RX10, TX10, 55), rfl, by decide, lay_X10, gwl_in5 15 rfl rfl, tyX10_ok, nmX10⟩
set_option maxRecDepth 100000 in
theorem fl_X10_73 : ev_fl RX10 73 10 34 := ⟨(RX10, TX10, 55), rfl, by decide, lay_X10, gwl_in5 16 rfl rfl, tyX10_ok, nmX10⟩
set_option maxRecDepth 100000 in
theorem fl_X10_76 : ev_fl RX10 76 10 38 := ⟨(RX10, TX10, 55), rfl, by decide, lay_X10, gwl_in5 20 rfl rfl, tyX10_ok, nmX10⟩
set_option maxRecDepth 100000 in
theorem fl_X10_79 : ev_fl RX10 79 10 39 := ⟨(RX10, TX10, 55), rfl, by decide, lay_X10, gwl_in5 21 rfl rfl, tyX10_ok, nmX10⟩
set_option maxRecDepth 100000 in
theorem fl_X10_82 : ev_fl RX10 82 10 40 := ⟨(RX10, TX10, 55), rfl, by decide, lay_X10, gwl_in5 22 rfl rfl, tyX10_ok, nmX10⟩
set_option maxRecDepth 100000 in
theorem fl_X10_85 : ev_fl RX10 85 10 41 := ⟨(RX10, TX10, 55), rfl, by decide, lay_X10, gwl_in5 23 rfl rfl, tyX10_ok, nmX10⟩
set_option maxRecDepth 100000 in
theorem fl_X10_88 : ev_fl RX10 88 10 42 := ⟨(RX10, TX10, 55), rfl, by decide, lay_X10, gwl_in5 24 rfl rfl, tyX10_ok, nmX10⟩
set_option maxRecDepth 100000 in
theorem fl_X10_91 : ev_fl RX10 91 10 43 := ⟨(RX10, TX10, 55), rfl, by decide, lay_X10, gwl_in5 25 rfl rfl, tyX10_ok, nmX10⟩
set_option maxRecDepth 100000 in
theorem fl_X10_94 : ev_fl RX10 94 10 44 := ⟨(RX10, TX10, 55), rfl, by decide, lay_X10, gwl_in5 26 rfl rfl, tyX10_ok, nmX10⟩
set_option maxRecDepth 100000 in
theorem fl_X10_97 : ev_fl RX10 97 10 46 := ⟨(RX10, TX10, 55), rfl, by decide, lay_X10, gwl_in5 28 rfl rfl, tyX10_ok, nmX10⟩
set_option maxRecDepth 100000 in
theorem fl_X10_100 : ev_fl RX10 100 10 47 := ⟨(RX10, TX10, 55), rfl, by decide, lay_X10, gwl_in5 29 rfl rfl, tyX10_ok, nmX10⟩
set_option maxRecDepth 100000 in
theorem fl_X10_103 : ev_fl RX10 103 10 49 := ⟨(RX10, TX10, 55), rfl, by decide, lay_X10, gwl_in5 31 rfl rfl, tyX10_ok, nmX10⟩
set_option maxRecDepth 100000 in
theorem fl_X10_106 : ev_fl RX10 106 10 50 := ⟨(RX10, TX10, 55), rfl, by decide, lay_X10, gwl_in5 32 rfl rfl, tyX10_ok, nmX10⟩
set_option maxRecDepth 100000 in
theorem fl_X10_109 : ev_fl RX10 109 10 51 := ⟨(RX10, TX10, 55), rfl, by decide, lay_X10, gwl_in5 33 rfl rfl, tyX10_ok, nmX10⟩
set_option maxRecDepth 100000 in
theorem fl_X10_112 : ev_fl RX10 112 10 52 := ⟨(RX10, TX10, 55), rfl, by decide, lay_X10, gwl_in5 34 rfl rfl, tyX10_ok, nmX10⟩
set_option maxRecDepth 100000 in
theorem fl_X10_115 : ev_fl RX10 115 10 53 := ⟨(RX10, TX10, 55), rfl, by decide, lay_X10, gwl_in5 35 rfl rfl, tyX10_ok, nmX10⟩
set_option maxRecDepth 100000 in
theorem fl_X10_118 : ev_fl RX10 118 10 54 := ⟨(RX10, TX10, 55), rfl, by decide, lay_X10, gwl_in5 36 rfl rfl, tyX10_ok, nmX10⟩
set_option maxRecDepth 100000 in
theorem fl_X10_121 : ev_fl RX10 121 10 5 := ⟨(RX10, TX10, 55), rfl, by decide, lay_X10, gwl_in4 227 rfl rfl, tyX10_ok, nmX10⟩
set_option maxRecDepth 100000 in
theorem fl_X10_128 : ev_fl RX10 128 10 13 := ⟨(RX10, TX10, 55), rfl, by decide, lay_X10, gwl_in4 235 rfl rfl, tyX10_ok, nmX10⟩
set_option maxRecDepth 100000 in
theorem fl_X10_131 : ev_fl RX10 131 10 4 := ⟨(RX10, TX10, 55), rfl, by decide, lay_X10, gwl_in4 226 rfl rfl, tyX10_ok, nmX10⟩
set_option maxRecDepth 100000 in
theorem fl_X10_186 : ev_fl RX10 186 10 16 := ⟨(RX10, TX10, 55), rfl, by decide, lay_X10, gwl_in4 238 rfl rfl, tyX10_ok, nmX10⟩
set_option maxRecDepth 100000 in
theorem fl_X10_191 : ev_fl RX10 191 10 21 := ⟨(RX10, TX10, 55), rfl, by decide, lay_X10, gwl_in5 3 rfl rfl, tyX10_ok, nmX10⟩
set_option maxRecDepth 100000 in
theorem fl_X10_194 : ev_fl RX10 194 10 22 := ⟨(RX10, TX10, 55), rfl, by decide, lay_X10, gwl_in5 4 rfl rfl, tyX10_ok, nmX10⟩
set_option maxRecDepth 100000 in
theorem fl_X10_197 : ev_fl RX10 197 10 18 := ⟨(RX10, TX10, 55), rfl, by decide, lay_X10, gwl_in5 0 rfl rfl, tyX10_ok, nmX10⟩
set_option maxRecDepth 100000 in
theorem fl_X10_204 : ev_fl RX10 204 10 19 := ⟨(RX10, TX10, 55), rfl, by decide, lay_X10, gwl_in5 1 rfl rfl, tyX10_ok, nmX10⟩
set_option maxRecDepth 100000 in
theorem fl_X10_207 : ev_fl RX10 207 10 20 := ⟨(RX10, TX10, 55), rfl, by decide, lay_X10, gwl_in5 2 rfl rfl, tyX10_ok, nmX10⟩
set_option maxRecDepth 100000 in
theorem fl_X10_210 : ev_fl RX10 210 10 17 := ⟨(RX10, TX10, 55), rfl, by decide, lay_X10, gwl_in4 239 rfl rfl, tyX10_ok, nmX10⟩
set_option maxRecDepth 100000 in
theorem fl_X10_234 : ev_fl RX10 234 10 27 := ⟨(RX10, TX10, 55), rfl, by decide, lay_X10, gwl_in5 9 rfl rfl, tyX10_ok, nmX10⟩
set_option maxRecDepth 100000 in
theorem fl_X10_237 : ev_fl RX10 237 10 28 := ⟨(RX10, TX10, 55), rfl, by decide, lay_X10, gwl_in5 10 rfl rfl, tyX10_ok, nmX10⟩
set_option maxRecDepth 100000 in
theorem fl_X10_241 : ev_fl RX10 241 10 31 := ⟨(RX10, TX10, 55), rfl, by decide, lay_X10, gwl_in5 13 rfl rfl, tyX10_ok, nmX10⟩
set_option maxRecDepth 100000 in
theorem fl_X10_257 : ev_fl RX10 257 10 23 := ⟨(RX10, TX10, 55), rfl, by decide, lay_X10, gwl_in5 5 rfl rfl, tyX10_ok, nmX10⟩
set_option maxRecDepth 100000 in
theorem fl_X10_301 : ev_fl RX10 301 10 35 := ⟨(RX10, TX10, 55), rfl, by decide, lay_X10, gwl_in5 17 rfl rfl, tyX10_ok, nmX10⟩
set_option maxRecDepth 100000 in
theorem fl_X10_315 : ev_fl RX10 315 10 36 := ⟨(RX10, TX10, 55), rfl, by decide, lay_X10, gwl_in5 18 rfl rfl, tyX10_ok, nmX10⟩
set_option maxRecDepth 100000 in
theorem fl_X10_318 : ev_fl RX10 318 10 37 := ⟨(RX10, TX10, 55), rfl, by decide, lay_X10, gwl_in5 19 rfl rfl, tyX10_ok, nmX10⟩
set_option maxRecDepth 100000 in
theorem fl_X10_346 : ev_fl RX10 346 10 45 := ⟨(RX10, TX10, 55), rfl, by decide, lay_X10, gwl_in5 27 rfl rfl, tyX10_ok, nmX10⟩
set_option maxRecDepth 100000 in
theorem fl_X10_349 : ev_fl RX10 349 10 48 := ⟨(RX10, TX10, 55), rfl, by decide, lay_X10, gwl_in5 30 rfl rfl, tyX10_ok, nmX10⟩
set_option maxRecDepth 100000 in
theorem cl_X9_7 : ev_cl RX9 7 1 := ⟨(RX1, TX1, 5), rfl, gwl_in1 24 rfl rfl, gwl_in1 25 rfl rfl, gwl_in1 2 rfl rfl, lay_X1, tyX1_ok, dft_X1⟩
set_option maxRecDepth 100000 in
theorem cl_X9_19 : ev_cl RX9 19 8 := ⟨(RX8, TX8, 8), rfl, gwl_in1 58 rfl rfl, gwl_in1 59 rfl rfl, gwl_in1 3 rfl rfl, lay_X8, tyX8_ok, dft_X8⟩
set_option maxRecDepth 100000 in
theorem cl_X9_26 : ev_cl RX9 26 0 := ⟨(RX0, TX0, 4), rfl, gwl_in1 107 rfl rfl, gwl_in1 108 rfl rfl, gwl_in1 4 rfl rfl, lay_X0, tyX0_ok, dft_X0⟩
set_option maxRecDepth 100000 in
theorem cl_X9_33 : ev_cl RX9 33 2 := ⟨(RX2, TX2, 14), rfl, gwl_in1 130 rfl rfl, gwl_in1 131 rfl rfl, gwl_in1 5 rfl rfl, lay_X2, tyX2_ok, dft_X2⟩
set_option maxRecDepth 100000 in
theorem cl_X9_40 : ev_cl RX9 40 7 := ⟨(RX7, TX7, 3), rfl, gwl_in1 185 rfl rfl, gwl_in1 186 rfl rfl, gwl_in1 6 rfl rfl, lay_X7, tyX7_ok, dft_X7⟩
set_option maxRecDepth 100000 in
theorem cl_X9_47 : ev_cl RX9 47 4 := ⟨(RX4, TX4, 16), rfl, gwl_in1 206 rfl rfl, gwl_in1 207 rfl rfl, gwl_in1 7 rfl rfl, lay_X4, tyX4_ok, dft_X4⟩
set_option maxRecDepth 100000 in
theorem cl_X9_54 : ev_cl RX9 54 6 := ⟨(RX6, TX6, 8), rfl, gwl_in2 21 rfl rfl, gwl_in2 22 rfl rfl, gwl_in1 8 rfl rfl, lay_X6, tyX6_ok, dft_X6⟩
set_option maxRecDepth 100000 in
theorem cl_X9_61 : ev_cl RX9 61 3 := ⟨(RX3, TX3, 11), rfl, gwl_in2 52 rfl rfl, gwl_in2 53 rfl rfl, gwl_in1 9 rfl rfl, lay_X3, tyX3_ok, dft_X3⟩
set_option maxRecDepth 100000 in
theorem cl_X9_68 : ev_cl RX9 68 5 := ⟨(RX5, TX5, 3), rfl, gwl_in2 99 rfl rfl, gwl_in2 100 rfl rfl, gwl_in1 10 rfl rfl, lay_X5, tyX5_ok, dft_X5⟩
set_option maxRecDepth 100000 in
theorem ca_X0_11 : Cond.classLink RX0 11 "[[I" ∈ gwl := gwl_in1 113 rfl rfl
set_option maxRecDepth 100000 in
theorem ca_X5_9 : Cond.classLink RX5 9 "[[I" ∈ gwl := gwl_in2 105 rfl rfl
set_option maxRecDepth 100000 in
theorem ca_X7_9 : Cond.classLink RX7 9 "[[I" ∈ gwl := gwl_in1 191 rfl rfl
set_option maxRecDepth 100000 in
theorem cl_L_7 : ev_cl RL 7 9 := ⟨(RX9, TX9, 10), rfl, gwl_in1 16 rfl rfl, gwl_in1 17 rfl rfl, gwl_in1 1 rfl rfl, lay_X9, tyX9_ok, dft_X9⟩
set_option maxRecDepth 100000 in
theorem cl_L_10 : ev_cl RL 10 10 := ⟨(RX10, TX10, 55), rfl, gwl_in4 215 rfl rfl, gwl_in4 216 rfl rfl, gwl_in1 11 rfl rfl, lay_X10, tyX10_ok, dft_X10⟩
set_option maxRecDepth 100000 in
theorem ac_int : Cond.arrayClass .int ∈ gwl := gwl_in1 105 rfl rfl
set_option maxRecDepth 100000 in
theorem ac_boolean : Cond.arrayClass .boolean ∈ gwl := gwl_in1 106 rfl rfl
set_option maxRecDepth 100000 in
theorem ac_byte : Cond.arrayClass .byte ∈ gwl := gwl_in1 184 rfl rfl
set_option maxRecDepth 100000 in
theorem oi_i : Cond.instanceMethod objectInit ∈ gwl := gwl_in1 22 rfl rfl
set_option maxRecDepth 100000 in
theorem oi_c : Cond.code objectInit ⟨#[0xb1]⟩ 1 none ∈ gwl := gwl_in1 23 rfl rfl
set_option maxRecDepth 100000 in
theorem cp_n : Cond.native arraycopyName ∈ gwl := gwl_in2 162 rfl rfl
set_option maxRecDepth 100000 in
theorem cp_s : Cond.static arraycopyName ∈ gwl := gwl_in2 161 rfl rfl
set_option maxRecDepth 100000 in
theorem cp_i : Cond.initialized "java/lang/System" ∈ gwl := gwl_in1 12 rfl rfl
set_option maxRecDepth 100000 in
theorem st_J9_min_7cf53 : Cond.static mi_J9_min_7cf53.1 ∈ gwl := gwl_in2 164 rfl rfl
set_option maxRecDepth 100000 in
theorem cd_J9_min_7cf53 : Cond.code mi_J9_min_7cf53.1 (mi_C mi_J9_min_7cf53) (mi_L mi_J9_min_7cf53) (mi_R mi_J9_min_7cf53) ∈ gwl ∧ Cond.initialized mi_J9_min_7cf53.1.cls ∈ gwl ∧ mi_J9_min_7cf53.1.cls ≠ "java/lang/invoke/MethodHandle" ∧ mi_J9_min_7cf53.1.cls ≠ "java/lang/invoke/VarHandle" ∧ (parseMethodDescriptor mi_J9_min_7cf53.1.desc).map (fun d => d.parameters.length) = some 2 := ⟨gwl_in2 165 rfl rfl, gwl_in1 13 rfl rfl, by decide +kernel, by decide +kernel, by decide +kernel⟩
set_option maxRecDepth 100000 in
theorem st_J9_max_7cf53 : Cond.static mi_J9_max_7cf53.1 ∈ gwl := gwl_in2 218 rfl rfl
set_option maxRecDepth 100000 in
theorem cd_J9_max_7cf53 : Cond.code mi_J9_max_7cf53.1 (mi_C mi_J9_max_7cf53) (mi_L mi_J9_max_7cf53) (mi_R mi_J9_max_7cf53) ∈ gwl ∧ Cond.initialized mi_J9_max_7cf53.1.cls ∈ gwl ∧ mi_J9_max_7cf53.1.cls ≠ "java/lang/invoke/MethodHandle" ∧ mi_J9_max_7cf53.1.cls ≠ "java/lang/invoke/VarHandle" ∧ (parseMethodDescriptor mi_J9_max_7cf53.1.desc).map (fun d => d.parameters.length) = some 2 := ⟨gwl_in2 219 rfl rfl, gwl_in1 13 rfl rfl, by decide +kernel, by decide +kernel, by decide +kernel⟩
set_option maxRecDepth 100000 in
theorem vt_X2_readToken : Cond.instanceMethod mi_X2_readToken.1 ∈ gwl ∧ Cond.selects mi_X2_readToken.1.cls mi_X2_readToken.1 mi_X2_readToken.1 ∈ gwl := ⟨gwl_in3 67 rfl rfl, gwl_in0 0 rfl rfl⟩
set_option maxRecDepth 100000 in
theorem cd_X2_readToken : Cond.code mi_X2_readToken.1 (mi_C mi_X2_readToken) (mi_L mi_X2_readToken) (mi_R mi_X2_readToken) ∈ gwl ∧ Cond.initialized mi_X2_readToken.1.cls ∈ gwl ∧ mi_X2_readToken.1.cls ≠ "java/lang/invoke/MethodHandle" ∧ mi_X2_readToken.1.cls ≠ "java/lang/invoke/VarHandle" ∧ (parseMethodDescriptor mi_X2_readToken.1.desc).map (fun d => d.parameters.length) = some 0 := ⟨gwl_in3 68 rfl rfl, gwl_in1 5 rfl rfl, by decide +kernel, by decide +kernel, by decide +kernel⟩
set_option maxRecDepth 100000 in
theorem vt_X2_take : Cond.instanceMethod mi_X2_take.1 ∈ gwl ∧ Cond.selects mi_X2_take.1.cls mi_X2_take.1 mi_X2_take.1 ∈ gwl := ⟨gwl_in3 95 rfl rfl, gwl_in0 7 rfl rfl⟩
set_option maxRecDepth 100000 in
theorem cd_X2_take : Cond.code mi_X2_take.1 (mi_C mi_X2_take) (mi_L mi_X2_take) (mi_R mi_X2_take) ∈ gwl ∧ Cond.initialized mi_X2_take.1.cls ∈ gwl ∧ mi_X2_take.1.cls ≠ "java/lang/invoke/MethodHandle" ∧ mi_X2_take.1.cls ≠ "java/lang/invoke/VarHandle" ∧ (parseMethodDescriptor mi_X2_take.1.desc).map (fun d => d.parameters.length) = some 1 := ⟨gwl_in3 96 rfl rfl, gwl_in1 5 rfl rfl, by decide +kernel, by decide +kernel, by decide +kernel⟩
set_option maxRecDepth 100000 in
theorem vt_X2_isLetter : Cond.instanceMethod mi_X2_isLetter.1 ∈ gwl ∧ Cond.selects mi_X2_isLetter.1.cls mi_X2_isLetter.1 mi_X2_isLetter.1 ∈ gwl := ⟨gwl_in3 71 rfl rfl, gwl_in0 1 rfl rfl⟩
set_option maxRecDepth 100000 in
theorem cd_X2_isLetter : Cond.code mi_X2_isLetter.1 (mi_C mi_X2_isLetter) (mi_L mi_X2_isLetter) (mi_R mi_X2_isLetter) ∈ gwl ∧ Cond.initialized mi_X2_isLetter.1.cls ∈ gwl ∧ mi_X2_isLetter.1.cls ≠ "java/lang/invoke/MethodHandle" ∧ mi_X2_isLetter.1.cls ≠ "java/lang/invoke/VarHandle" ∧ (parseMethodDescriptor mi_X2_isLetter.1.desc).map (fun d => d.parameters.length) = some 1 := ⟨gwl_in3 72 rfl rfl, gwl_in1 5 rfl rfl, by decide +kernel, by decide +kernel, by decide +kernel⟩
set_option maxRecDepth 100000 in
theorem vt_X2_readChord : Cond.instanceMethod mi_X2_readChord.1 ∈ gwl ∧ Cond.selects mi_X2_readChord.1.cls mi_X2_readChord.1 mi_X2_readChord.1 ∈ gwl := ⟨gwl_in3 75 rfl rfl, gwl_in0 2 rfl rfl⟩
set_option maxRecDepth 100000 in
theorem cd_X2_readChord : Cond.code mi_X2_readChord.1 (mi_C mi_X2_readChord) (mi_L mi_X2_readChord) (mi_R mi_X2_readChord) ∈ gwl ∧ Cond.initialized mi_X2_readChord.1.cls ∈ gwl ∧ mi_X2_readChord.1.cls ≠ "java/lang/invoke/MethodHandle" ∧ mi_X2_readChord.1.cls ≠ "java/lang/invoke/VarHandle" ∧ (parseMethodDescriptor mi_X2_readChord.1.desc).map (fun d => d.parameters.length) = some 0 := ⟨gwl_in3 76 rfl rfl, gwl_in1 5 rfl rfl, by decide +kernel, by decide +kernel, by decide +kernel⟩
set_option maxRecDepth 100000 in
theorem vt_X2_isFigure : Cond.instanceMethod mi_X2_isFigure.1 ∈ gwl ∧ Cond.selects mi_X2_isFigure.1.cls mi_X2_isFigure.1 mi_X2_isFigure.1 ∈ gwl := ⟨gwl_in3 83 rfl rfl, gwl_in0 4 rfl rfl⟩
set_option maxRecDepth 100000 in
theorem cd_X2_isFigure : Cond.code mi_X2_isFigure.1 (mi_C mi_X2_isFigure) (mi_L mi_X2_isFigure) (mi_R mi_X2_isFigure) ∈ gwl ∧ Cond.initialized mi_X2_isFigure.1.cls ∈ gwl ∧ mi_X2_isFigure.1.cls ≠ "java/lang/invoke/MethodHandle" ∧ mi_X2_isFigure.1.cls ≠ "java/lang/invoke/VarHandle" ∧ (parseMethodDescriptor mi_X2_isFigure.1.desc).map (fun d => d.parameters.length) = some 1 := ⟨gwl_in3 84 rfl rfl, gwl_in1 5 rfl rfl, by decide +kernel, by decide +kernel, by decide +kernel⟩
set_option maxRecDepth 100000 in
theorem vt_X2_readNumber : Cond.instanceMethod mi_X2_readNumber.1 ∈ gwl ∧ Cond.selects mi_X2_readNumber.1.cls mi_X2_readNumber.1 mi_X2_readNumber.1 ∈ gwl := ⟨gwl_in3 87 rfl rfl, gwl_in0 5 rfl rfl⟩
set_option maxRecDepth 100000 in
theorem cd_X2_readNumber : Cond.code mi_X2_readNumber.1 (mi_C mi_X2_readNumber) (mi_L mi_X2_readNumber) (mi_R mi_X2_readNumber) ∈ gwl ∧ Cond.initialized mi_X2_readNumber.1.cls ∈ gwl ∧ mi_X2_readNumber.1.cls ≠ "java/lang/invoke/MethodHandle" ∧ mi_X2_readNumber.1.cls ≠ "java/lang/invoke/VarHandle" ∧ (parseMethodDescriptor mi_X2_readNumber.1.desc).map (fun d => d.parameters.length) = some 0 := ⟨gwl_in3 88 rfl rfl, gwl_in1 5 rfl rfl, by decide +kernel, by decide +kernel, by decide +kernel⟩
set_option maxRecDepth 100000 in
theorem vt_X2_readSign : Cond.instanceMethod mi_X2_readSign.1 ∈ gwl ∧ Cond.selects mi_X2_readSign.1.cls mi_X2_readSign.1 mi_X2_readSign.1 ∈ gwl := ⟨gwl_in3 91 rfl rfl, gwl_in0 6 rfl rfl⟩
set_option maxRecDepth 100000 in
theorem cd_X2_readSign : Cond.code mi_X2_readSign.1 (mi_C mi_X2_readSign) (mi_L mi_X2_readSign) (mi_R mi_X2_readSign) ∈ gwl ∧ Cond.initialized mi_X2_readSign.1.cls ∈ gwl ∧ mi_X2_readSign.1.cls ≠ "java/lang/invoke/MethodHandle" ∧ mi_X2_readSign.1.cls ≠ "java/lang/invoke/VarHandle" ∧ (parseMethodDescriptor mi_X2_readSign.1.desc).map (fun d => d.parameters.length) = some 0 := ⟨gwl_in3 92 rfl rfl, gwl_in1 5 rfl rfl, by decide +kernel, by decide +kernel, by decide +kernel⟩
set_option maxRecDepth 100000 in
theorem vt_X2_fail : Cond.instanceMethod mi_X2_fail.1 ∈ gwl ∧ Cond.selects mi_X2_fail.1.cls mi_X2_fail.1 mi_X2_fail.1 ∈ gwl := ⟨gwl_in3 79 rfl rfl, gwl_in0 3 rfl rfl⟩
set_option maxRecDepth 100000 in
theorem cd_X2_fail : Cond.code mi_X2_fail.1 (mi_C mi_X2_fail) (mi_L mi_X2_fail) (mi_R mi_X2_fail) ∈ gwl ∧ Cond.initialized mi_X2_fail.1.cls ∈ gwl ∧ mi_X2_fail.1.cls ≠ "java/lang/invoke/MethodHandle" ∧ mi_X2_fail.1.cls ≠ "java/lang/invoke/VarHandle" ∧ (parseMethodDescriptor mi_X2_fail.1.desc).map (fun d => d.parameters.length) = some 2 := ⟨gwl_in3 80 rfl rfl, gwl_in1 5 rfl rfl, by decide +kernel, by decide +kernel, by decide +kernel⟩
set_option maxRecDepth 100000 in
theorem vt_X2_takeOpen : Cond.instanceMethod mi_X2_takeOpen.1 ∈ gwl ∧ Cond.selects mi_X2_takeOpen.1.cls mi_X2_takeOpen.1 mi_X2_takeOpen.1 ∈ gwl := ⟨gwl_in3 99 rfl rfl, gwl_in0 8 rfl rfl⟩
set_option maxRecDepth 100000 in
theorem cd_X2_takeOpen : Cond.code mi_X2_takeOpen.1 (mi_C mi_X2_takeOpen) (mi_L mi_X2_takeOpen) (mi_R mi_X2_takeOpen) ∈ gwl ∧ Cond.initialized mi_X2_takeOpen.1.cls ∈ gwl ∧ mi_X2_takeOpen.1.cls ≠ "java/lang/invoke/MethodHandle" ∧ mi_X2_takeOpen.1.cls ≠ "java/lang/invoke/VarHandle" ∧ (parseMethodDescriptor mi_X2_takeOpen.1.desc).map (fun d => d.parameters.length) = some 0 := ⟨gwl_in3 100 rfl rfl, gwl_in1 5 rfl rfl, by decide +kernel, by decide +kernel, by decide +kernel⟩
set_option maxRecDepth 100000 in
theorem vt_X2_misplaced : Cond.instanceMethod mi_X2_misplaced.1 ∈ gwl ∧ Cond.selects mi_X2_misplaced.1.cls mi_X2_misplaced.1 mi_X2_misplaced.1 ∈ gwl := ⟨gwl_in3 103 rfl rfl, gwl_in0 9 rfl rfl⟩
set_option maxRecDepth 100000 in
theorem cd_X2_misplaced : Cond.code mi_X2_misplaced.1 (mi_C mi_X2_misplaced) (mi_L mi_X2_misplaced) (mi_R mi_X2_misplaced) ∈ gwl ∧ Cond.initialized mi_X2_misplaced.1.cls ∈ gwl ∧ mi_X2_misplaced.1.cls ≠ "java/lang/invoke/MethodHandle" ∧ mi_X2_misplaced.1.cls ≠ "java/lang/invoke/VarHandle" ∧ (parseMethodDescriptor mi_X2_misplaced.1.desc).map (fun d => d.parameters.length) = some 0 := ⟨gwl_in3 104 rfl rfl, gwl_in1 5 rfl rfl, by decide +kernel, by decide +kernel, by decide +kernel⟩
set_option maxRecDepth 100000 in
theorem vt_X2_takeChord : Cond.instanceMethod mi_X2_takeChord.1 ∈ gwl ∧ Cond.selects mi_X2_takeChord.1.cls mi_X2_takeChord.1 mi_X2_takeChord.1 ∈ gwl := ⟨gwl_in3 107 rfl rfl, gwl_in0 10 rfl rfl⟩
set_option maxRecDepth 100000 in
theorem cd_X2_takeChord : Cond.code mi_X2_takeChord.1 (mi_C mi_X2_takeChord) (mi_L mi_X2_takeChord) (mi_R mi_X2_takeChord) ∈ gwl ∧ Cond.initialized mi_X2_takeChord.1.cls ∈ gwl ∧ mi_X2_takeChord.1.cls ≠ "java/lang/invoke/MethodHandle" ∧ mi_X2_takeChord.1.cls ≠ "java/lang/invoke/VarHandle" ∧ (parseMethodDescriptor mi_X2_takeChord.1.desc).map (fun d => d.parameters.length) = some 0 := ⟨gwl_in3 108 rfl rfl, gwl_in1 5 rfl rfl, by decide +kernel, by decide +kernel, by decide +kernel⟩
set_option maxRecDepth 100000 in
theorem vt_X2_addBeat : Cond.instanceMethod mi_X2_addBeat.1 ∈ gwl ∧ Cond.selects mi_X2_addBeat.1.cls mi_X2_addBeat.1 mi_X2_addBeat.1 ∈ gwl := ⟨gwl_in3 111 rfl rfl, gwl_in0 11 rfl rfl⟩
set_option maxRecDepth 100000 in
theorem cd_X2_addBeat : Cond.code mi_X2_addBeat.1 (mi_C mi_X2_addBeat) (mi_L mi_X2_addBeat) (mi_R mi_X2_addBeat) ∈ gwl ∧ Cond.initialized mi_X2_addBeat.1.cls ∈ gwl ∧ mi_X2_addBeat.1.cls ≠ "java/lang/invoke/MethodHandle" ∧ mi_X2_addBeat.1.cls ≠ "java/lang/invoke/VarHandle" ∧ (parseMethodDescriptor mi_X2_addBeat.1.desc).map (fun d => d.parameters.length) = some 1 := ⟨gwl_in3 112 rfl rfl, gwl_in1 5 rfl rfl, by decide +kernel, by decide +kernel, by decide +kernel⟩
set_option maxRecDepth 100000 in
theorem vt_X2_takeNumber : Cond.instanceMethod mi_X2_takeNumber.1 ∈ gwl ∧ Cond.selects mi_X2_takeNumber.1.cls mi_X2_takeNumber.1 mi_X2_takeNumber.1 ∈ gwl := ⟨gwl_in3 116 rfl rfl, gwl_in0 12 rfl rfl⟩
set_option maxRecDepth 100000 in
theorem cd_X2_takeNumber : Cond.code mi_X2_takeNumber.1 (mi_C mi_X2_takeNumber) (mi_L mi_X2_takeNumber) (mi_R mi_X2_takeNumber) ∈ gwl ∧ Cond.initialized mi_X2_takeNumber.1.cls ∈ gwl ∧ mi_X2_takeNumber.1.cls ≠ "java/lang/invoke/MethodHandle" ∧ mi_X2_takeNumber.1.cls ≠ "java/lang/invoke/VarHandle" ∧ (parseMethodDescriptor mi_X2_takeNumber.1.desc).map (fun d => d.parameters.length) = some 0 := ⟨gwl_in3 117 rfl rfl, gwl_in1 5 rfl rfl, by decide +kernel, by decide +kernel, by decide +kernel⟩
set_option maxRecDepth 100000 in
theorem vt_X2_takeClose : Cond.instanceMethod mi_X2_takeClose.1 ∈ gwl ∧ Cond.selects mi_X2_takeClose.1.cls mi_X2_takeClose.1 mi_X2_takeClose.1 ∈ gwl := ⟨gwl_in3 121 rfl rfl, gwl_in0 13 rfl rfl⟩
set_option maxRecDepth 100000 in
theorem cd_X2_takeClose : Cond.code mi_X2_takeClose.1 (mi_C mi_X2_takeClose) (mi_L mi_X2_takeClose) (mi_R mi_X2_takeClose) ∈ gwl ∧ Cond.initialized mi_X2_takeClose.1.cls ∈ gwl ∧ mi_X2_takeClose.1.cls ≠ "java/lang/invoke/MethodHandle" ∧ mi_X2_takeClose.1.cls ≠ "java/lang/invoke/VarHandle" ∧ (parseMethodDescriptor mi_X2_takeClose.1.desc).map (fun d => d.parameters.length) = some 0 := ⟨gwl_in3 122 rfl rfl, gwl_in1 5 rfl rfl, by decide +kernel, by decide +kernel, by decide +kernel⟩
set_option maxRecDepth 100000 in
theorem vt_X2_takeEnd : Cond.instanceMethod mi_X2_takeEnd.1 ∈ gwl ∧ Cond.selects mi_X2_takeEnd.1.cls mi_X2_takeEnd.1 mi_X2_takeEnd.1 ∈ gwl := ⟨gwl_in3 125 rfl rfl, gwl_in0 14 rfl rfl⟩
set_option maxRecDepth 100000 in
theorem cd_X2_takeEnd : Cond.code mi_X2_takeEnd.1 (mi_C mi_X2_takeEnd) (mi_L mi_X2_takeEnd) (mi_R mi_X2_takeEnd) ∈ gwl ∧ Cond.initialized mi_X2_takeEnd.1.cls ∈ gwl ∧ mi_X2_takeEnd.1.cls ≠ "java/lang/invoke/MethodHandle" ∧ mi_X2_takeEnd.1.cls ≠ "java/lang/invoke/VarHandle" ∧ (parseMethodDescriptor mi_X2_takeEnd.1.desc).map (fun d => d.parameters.length) = some 0 := ⟨gwl_in3 126 rfl rfl, gwl_in1 5 rfl rfl, by decide +kernel, by decide +kernel, by decide +kernel⟩
set_option maxRecDepth 100000 in
theorem st_X9_isWithin : Cond.static mi_X9_isWithin.1 ∈ gwl := gwl_in2 154 rfl rfl
set_option maxRecDepth 100000 in
theorem cd_X9_isWithin : Cond.code mi_X9_isWithin.1 (mi_C mi_X9_isWithin) (mi_L mi_X9_isWithin) (mi_R mi_X9_isWithin) ∈ gwl ∧ Cond.initialized mi_X9_isWithin.1.cls ∈ gwl ∧ mi_X9_isWithin.1.cls ≠ "java/lang/invoke/MethodHandle" ∧ mi_X9_isWithin.1.cls ≠ "java/lang/invoke/VarHandle" ∧ (parseMethodDescriptor mi_X9_isWithin.1.desc).map (fun d => d.parameters.length) = some 3 := ⟨gwl_in2 155 rfl rfl, gwl_in1 1 rfl rfl, by decide +kernel, by decide +kernel, by decide +kernel⟩
set_option maxRecDepth 100000 in
theorem vt_X3_way : Cond.instanceMethod mi_X3_way.1 ∈ gwl ∧ Cond.selects mi_X3_way.1.cls mi_X3_way.1 mi_X3_way.1 ∈ gwl := ⟨gwl_in4 146 rfl rfl, gwl_in4 147 rfl rfl⟩
set_option maxRecDepth 100000 in
theorem cd_X3_way : Cond.code mi_X3_way.1 (mi_C mi_X3_way) (mi_L mi_X3_way) (mi_R mi_X3_way) ∈ gwl ∧ Cond.initialized mi_X3_way.1.cls ∈ gwl ∧ mi_X3_way.1.cls ≠ "java/lang/invoke/MethodHandle" ∧ mi_X3_way.1.cls ≠ "java/lang/invoke/VarHandle" ∧ (parseMethodDescriptor mi_X3_way.1.desc).map (fun d => d.parameters.length) = some 2 := ⟨gwl_in4 148 rfl rfl, gwl_in1 9 rfl rfl, by decide +kernel, by decide +kernel, by decide +kernel⟩
set_option maxRecDepth 100000 in
theorem vt_X3_firstHeard : Cond.instanceMethod mi_X3_firstHeard.1 ∈ gwl ∧ Cond.selects mi_X3_firstHeard.1.cls mi_X3_firstHeard.1 mi_X3_firstHeard.1 ∈ gwl := ⟨gwl_in4 160 rfl rfl, gwl_in4 161 rfl rfl⟩
set_option maxRecDepth 100000 in
theorem cd_X3_firstHeard : Cond.code mi_X3_firstHeard.1 (mi_C mi_X3_firstHeard) (mi_L mi_X3_firstHeard) (mi_R mi_X3_firstHeard) ∈ gwl ∧ Cond.initialized mi_X3_firstHeard.1.cls ∈ gwl ∧ mi_X3_firstHeard.1.cls ≠ "java/lang/invoke/MethodHandle" ∧ mi_X3_firstHeard.1.cls ≠ "java/lang/invoke/VarHandle" ∧ (parseMethodDescriptor mi_X3_firstHeard.1.desc).map (fun d => d.parameters.length) = some 2 := ⟨gwl_in4 162 rfl rfl, gwl_in1 9 rfl rfl, by decide +kernel, by decide +kernel, by decide +kernel⟩
set_option maxRecDepth 100000 in
theorem vt_X7_chordIn : Cond.instanceMethod mi_X7_chordIn.1 ∈ gwl ∧ Cond.selects mi_X7_chordIn.1.cls mi_X7_chordIn.1 mi_X7_chordIn.1 ∈ gwl := ⟨gwl_in3 192 rfl rfl, gwl_in3 193 rfl rfl⟩
set_option maxRecDepth 100000 in
theorem cd_X7_chordIn : Cond.code mi_X7_chordIn.1 (mi_C mi_X7_chordIn) (mi_L mi_X7_chordIn) (mi_R mi_X7_chordIn) ∈ gwl ∧ Cond.initialized mi_X7_chordIn.1.cls ∈ gwl ∧ mi_X7_chordIn.1.cls ≠ "java/lang/invoke/MethodHandle" ∧ mi_X7_chordIn.1.cls ≠ "java/lang/invoke/VarHandle" ∧ (parseMethodDescriptor mi_X7_chordIn.1.desc).map (fun d => d.parameters.length) = some 3 := ⟨gwl_in3 194 rfl rfl, gwl_in1 6 rfl rfl, by decide +kernel, by decide +kernel, by decide +kernel⟩
set_option maxRecDepth 100000 in
theorem vt_X8_drawnBy : Cond.instanceMethod mi_X8_drawnBy.1 ∈ gwl ∧ Cond.selects mi_X8_drawnBy.1.cls mi_X8_drawnBy.1 mi_X8_drawnBy.1 ∈ gwl := ⟨gwl_in2 184 rfl rfl, gwl_in2 185 rfl rfl⟩
set_option maxRecDepth 100000 in
theorem cd_X8_drawnBy : Cond.code mi_X8_drawnBy.1 (mi_C mi_X8_drawnBy) (mi_L mi_X8_drawnBy) (mi_R mi_X8_drawnBy) ∈ gwl ∧ Cond.initialized mi_X8_drawnBy.1.cls ∈ gwl ∧ mi_X8_drawnBy.1.cls ≠ "java/lang/invoke/MethodHandle" ∧ mi_X8_drawnBy.1.cls ≠ "java/lang/invoke/VarHandle" ∧ (parseMethodDescriptor mi_X8_drawnBy.1.desc).map (fun d => d.parameters.length) = some 2 := ⟨gwl_in2 186 rfl rfl, gwl_in1 3 rfl rfl, by decide +kernel, by decide +kernel, by decide +kernel⟩
set_option maxRecDepth 100000 in
theorem vt_X4_markNear : Cond.instanceMethod mi_X4_markNear.1 ∈ gwl ∧ Cond.selects mi_X4_markNear.1.cls mi_X4_markNear.1 mi_X4_markNear.1 ∈ gwl := ⟨gwl_in3 226 rfl rfl, gwl_in0 17 rfl rfl⟩
set_option maxRecDepth 100000 in
theorem cd_X4_markNear : Cond.code mi_X4_markNear.1 (mi_C mi_X4_markNear) (mi_L mi_X4_markNear) (mi_R mi_X4_markNear) ∈ gwl ∧ Cond.initialized mi_X4_markNear.1.cls ∈ gwl ∧ mi_X4_markNear.1.cls ≠ "java/lang/invoke/MethodHandle" ∧ mi_X4_markNear.1.cls ≠ "java/lang/invoke/VarHandle" ∧ (parseMethodDescriptor mi_X4_markNear.1.desc).map (fun d => d.parameters.length) = some 2 := ⟨gwl_in3 227 rfl rfl, gwl_in1 7 rfl rfl, by decide +kernel, by decide +kernel, by decide +kernel⟩
set_option maxRecDepth 100000 in
theorem st_X4_cell : Cond.static mi_X4_cell.1 ∈ gwl := gwl_in3 230 rfl rfl
set_option maxRecDepth 100000 in
theorem cd_X4_cell : Cond.code mi_X4_cell.1 (mi_C mi_X4_cell) (mi_L mi_X4_cell) (mi_R mi_X4_cell) ∈ gwl ∧ Cond.initialized mi_X4_cell.1.cls ∈ gwl ∧ mi_X4_cell.1.cls ≠ "java/lang/invoke/MethodHandle" ∧ mi_X4_cell.1.cls ≠ "java/lang/invoke/VarHandle" ∧ (parseMethodDescriptor mi_X4_cell.1.desc).map (fun d => d.parameters.length) = some 2 := ⟨gwl_in3 231 rfl rfl, gwl_in1 7 rfl rfl, by decide +kernel, by decide +kernel, by decide +kernel⟩
set_option maxRecDepth 100000 in
theorem st_J7_fill_fda19 : Cond.static mi_J7_fill_fda19.1 ∈ gwl := gwl_in3 233 rfl rfl
set_option maxRecDepth 100000 in
theorem cd_J7_fill_fda19 : Cond.code mi_J7_fill_fda19.1 (mi_C mi_J7_fill_fda19) (mi_L mi_J7_fill_fda19) (mi_R mi_J7_fill_fda19) ∈ gwl ∧ Cond.initialized mi_J7_fill_fda19.1.cls ∈ gwl ∧ mi_J7_fill_fda19.1.cls ≠ "java/lang/invoke/MethodHandle" ∧ mi_J7_fill_fda19.1.cls ≠ "java/lang/invoke/VarHandle" ∧ (parseMethodDescriptor mi_J7_fill_fda19.1.desc).map (fun d => d.parameters.length) = some 4 := ⟨gwl_in3 234 rfl rfl, gwl_in1 15 rfl rfl, by decide +kernel, by decide +kernel, by decide +kernel⟩
set_option maxRecDepth 100000 in
theorem vt_X4_listOptions : Cond.instanceMethod mi_X4_listOptions.1 ∈ gwl ∧ Cond.selects mi_X4_listOptions.1.cls mi_X4_listOptions.1 mi_X4_listOptions.1 ∈ gwl := ⟨gwl_in4 0 rfl rfl, gwl_in0 18 rfl rfl⟩
set_option maxRecDepth 100000 in
theorem cd_X4_listOptions : Cond.code mi_X4_listOptions.1 (mi_C mi_X4_listOptions) (mi_L mi_X4_listOptions) (mi_R mi_X4_listOptions) ∈ gwl ∧ Cond.initialized mi_X4_listOptions.1.cls ∈ gwl ∧ mi_X4_listOptions.1.cls ≠ "java/lang/invoke/MethodHandle" ∧ mi_X4_listOptions.1.cls ≠ "java/lang/invoke/VarHandle" ∧ (parseMethodDescriptor mi_X4_listOptions.1.desc).map (fun d => d.parameters.length) = some 2 := ⟨gwl_in4 1 rfl rfl, gwl_in1 7 rfl rfl, by decide +kernel, by decide +kernel, by decide +kernel⟩
set_option maxRecDepth 100000 in
theorem vt_X4_fillSounding : Cond.instanceMethod mi_X4_fillSounding.1 ∈ gwl ∧ Cond.selects mi_X4_fillSounding.1.cls mi_X4_fillSounding.1 mi_X4_fillSounding.1 ∈ gwl := ⟨gwl_in4 4 rfl rfl, gwl_in0 19 rfl rfl⟩
set_option maxRecDepth 100000 in
theorem cd_X4_fillSounding : Cond.code mi_X4_fillSounding.1 (mi_C mi_X4_fillSounding) (mi_L mi_X4_fillSounding) (mi_R mi_X4_fillSounding) ∈ gwl ∧ Cond.initialized mi_X4_fillSounding.1.cls ∈ gwl ∧ mi_X4_fillSounding.1.cls ≠ "java/lang/invoke/MethodHandle" ∧ mi_X4_fillSounding.1.cls ≠ "java/lang/invoke/VarHandle" ∧ (parseMethodDescriptor mi_X4_fillSounding.1.desc).map (fun d => d.parameters.length) = some 2 := ⟨gwl_in4 5 rfl rfl, gwl_in1 7 rfl rfl, by decide +kernel, by decide +kernel, by decide +kernel⟩
set_option maxRecDepth 100000 in
theorem vt_X4_fillResting : Cond.instanceMethod mi_X4_fillResting.1 ∈ gwl ∧ Cond.selects mi_X4_fillResting.1.cls mi_X4_fillResting.1 mi_X4_fillResting.1 ∈ gwl := ⟨gwl_in4 22 rfl rfl, gwl_in0 22 rfl rfl⟩
set_option maxRecDepth 100000 in
theorem cd_X4_fillResting : Cond.code mi_X4_fillResting.1 (mi_C mi_X4_fillResting) (mi_L mi_X4_fillResting) (mi_R mi_X4_fillResting) ∈ gwl ∧ Cond.initialized mi_X4_fillResting.1.cls ∈ gwl ∧ mi_X4_fillResting.1.cls ≠ "java/lang/invoke/MethodHandle" ∧ mi_X4_fillResting.1.cls ≠ "java/lang/invoke/VarHandle" ∧ (parseMethodDescriptor mi_X4_fillResting.1.desc).map (fun d => d.parameters.length) = some 2 := ⟨gwl_in4 23 rfl rfl, gwl_in1 7 rfl rfl, by decide +kernel, by decide +kernel, by decide +kernel⟩
set_option maxRecDepth 100000 in
theorem vt_X4_follow : Cond.instanceMethod mi_X4_follow.1 ∈ gwl ∧ Cond.selects mi_X4_follow.1.cls mi_X4_follow.1 mi_X4_follow.1 ∈ gwl := ⟨gwl_in4 27 rfl rfl, gwl_in0 23 rfl rfl⟩
set_option maxRecDepth 100000 in
theorem cd_X4_follow : Cond.code mi_X4_follow.1 (mi_C mi_X4_follow) (mi_L mi_X4_follow) (mi_R mi_X4_follow) ∈ gwl ∧ Cond.initialized mi_X4_follow.1.cls ∈ gwl ∧ mi_X4_follow.1.cls ≠ "java/lang/invoke/MethodHandle" ∧ mi_X4_follow.1.cls ≠ "java/lang/invoke/VarHandle" ∧ (parseMethodDescriptor mi_X4_follow.1.desc).map (fun d => d.parameters.length) = some 3 := ⟨gwl_in4 28 rfl rfl, gwl_in1 7 rfl rfl, by decide +kernel, by decide +kernel, by decide +kernel⟩
set_option maxRecDepth 100000 in
theorem vt_X8_isNear : Cond.instanceMethod mi_X8_isNear.1 ∈ gwl ∧ Cond.selects mi_X8_isNear.1.cls mi_X8_isNear.1 mi_X8_isNear.1 ∈ gwl := ⟨gwl_in3 24 rfl rfl, gwl_in3 25 rfl rfl⟩
set_option maxRecDepth 100000 in
theorem cd_X8_isNear : Cond.code mi_X8_isNear.1 (mi_C mi_X8_isNear) (mi_L mi_X8_isNear) (mi_R mi_X8_isNear) ∈ gwl ∧ Cond.initialized mi_X8_isNear.1.cls ∈ gwl ∧ mi_X8_isNear.1.cls ≠ "java/lang/invoke/MethodHandle" ∧ mi_X8_isNear.1.cls ≠ "java/lang/invoke/VarHandle" ∧ (parseMethodDescriptor mi_X8_isNear.1.desc).map (fun d => d.parameters.length) = some 3 := ⟨gwl_in3 26 rfl rfl, gwl_in1 3 rfl rfl, by decide +kernel, by decide +kernel, by decide +kernel⟩
set_option maxRecDepth 100000 in
theorem vt_X4_isOpen : Cond.instanceMethod mi_X4_isOpen.1 ∈ gwl ∧ Cond.selects mi_X4_isOpen.1.cls mi_X4_isOpen.1 mi_X4_isOpen.1 ∈ gwl := ⟨gwl_in4 8 rfl rfl, gwl_in0 20 rfl rfl⟩
set_option maxRecDepth 100000 in
theorem cd_X4_isOpen : Cond.code mi_X4_isOpen.1 (mi_C mi_X4_isOpen) (mi_L mi_X4_isOpen) (mi_R mi_X4_isOpen) ∈ gwl ∧ Cond.initialized mi_X4_isOpen.1.cls ∈ gwl ∧ mi_X4_isOpen.1.cls ≠ "java/lang/invoke/MethodHandle" ∧ mi_X4_isOpen.1.cls ≠ "java/lang/invoke/VarHandle" ∧ (parseMethodDescriptor mi_X4_isOpen.1.desc).map (fun d => d.parameters.length) = some 2 := ⟨gwl_in4 9 rfl rfl, gwl_in1 7 rfl rfl, by decide +kernel, by decide +kernel, by decide +kernel⟩
set_option maxRecDepth 100000 in
theorem st_J6_bitCount_0f7a4 : Cond.static mi_J6_bitCount_0f7a4.1 ∈ gwl := gwl_in3 149 rfl rfl
set_option maxRecDepth 100000 in
theorem cd_J6_bitCount_0f7a4 : Cond.code mi_J6_bitCount_0f7a4.1 (mi_C mi_J6_bitCount_0f7a4) (mi_L mi_J6_bitCount_0f7a4) (mi_R mi_J6_bitCount_0f7a4) ∈ gwl ∧ Cond.initialized mi_J6_bitCount_0f7a4.1.cls ∈ gwl ∧ mi_J6_bitCount_0f7a4.1.cls ≠ "java/lang/invoke/MethodHandle" ∧ mi_J6_bitCount_0f7a4.1.cls ≠ "java/lang/invoke/VarHandle" ∧ (parseMethodDescriptor mi_J6_bitCount_0f7a4.1.desc).map (fun d => d.parameters.length) = some 1 := ⟨gwl_in3 150 rfl rfl, gwl_in1 14 rfl rfl, by decide +kernel, by decide +kernel, by decide +kernel⟩
set_option maxRecDepth 100000 in
theorem vt_X1_after : Cond.instanceMethod mi_X1_after.1 ∈ gwl ∧ Cond.selects mi_X1_after.1.cls mi_X1_after.1 mi_X1_after.1 ∈ gwl := ⟨gwl_in4 12 rfl rfl, gwl_in4 13 rfl rfl⟩
set_option maxRecDepth 100000 in
theorem cd_X1_after : Cond.code mi_X1_after.1 (mi_C mi_X1_after) (mi_L mi_X1_after) (mi_R mi_X1_after) ∈ gwl ∧ Cond.initialized mi_X1_after.1.cls ∈ gwl ∧ mi_X1_after.1.cls ≠ "java/lang/invoke/MethodHandle" ∧ mi_X1_after.1.cls ≠ "java/lang/invoke/VarHandle" ∧ (parseMethodDescriptor mi_X1_after.1.desc).map (fun d => d.parameters.length) = some 2 := ⟨gwl_in4 14 rfl rfl, gwl_in1 2 rfl rfl, by decide +kernel, by decide +kernel, by decide +kernel⟩
set_option maxRecDepth 100000 in
theorem vt_X4_raise : Cond.instanceMethod mi_X4_raise.1 ∈ gwl ∧ Cond.selects mi_X4_raise.1.cls mi_X4_raise.1 mi_X4_raise.1 ∈ gwl := ⟨gwl_in4 18 rfl rfl, gwl_in0 21 rfl rfl⟩
set_option maxRecDepth 100000 in
theorem cd_X4_raise : Cond.code mi_X4_raise.1 (mi_C mi_X4_raise) (mi_L mi_X4_raise) (mi_R mi_X4_raise) ∈ gwl ∧ Cond.initialized mi_X4_raise.1.cls ∈ gwl ∧ mi_X4_raise.1.cls ≠ "java/lang/invoke/MethodHandle" ∧ mi_X4_raise.1.cls ≠ "java/lang/invoke/VarHandle" ∧ (parseMethodDescriptor mi_X4_raise.1.desc).map (fun d => d.parameters.length) = some 3 := ⟨gwl_in4 19 rfl rfl, gwl_in1 7 rfl rfl, by decide +kernel, by decide +kernel, by decide +kernel⟩
set_option maxRecDepth 100000 in
theorem vt_X4_bestOption : Cond.instanceMethod mi_X4_bestOption.1 ∈ gwl ∧ Cond.selects mi_X4_bestOption.1.cls mi_X4_bestOption.1 mi_X4_bestOption.1 ∈ gwl := ⟨gwl_in4 31 rfl rfl, gwl_in0 24 rfl rfl⟩
set_option maxRecDepth 100000 in
theorem cd_X4_bestOption : Cond.code mi_X4_bestOption.1 (mi_C mi_X4_bestOption) (mi_L mi_X4_bestOption) (mi_R mi_X4_bestOption) ∈ gwl ∧ Cond.initialized mi_X4_bestOption.1.cls ∈ gwl ∧ mi_X4_bestOption.1.cls ≠ "java/lang/invoke/MethodHandle" ∧ mi_X4_bestOption.1.cls ≠ "java/lang/invoke/VarHandle" ∧ (parseMethodDescriptor mi_X4_bestOption.1.desc).map (fun d => d.parameters.length) = some 4 := ⟨gwl_in4 32 rfl rfl, gwl_in1 7 rfl rfl, by decide +kernel, by decide +kernel, by decide +kernel⟩
set_option maxRecDepth 100000 in
theorem vt_X4_worthOf : Cond.instanceMethod mi_X4_worthOf.1 ∈ gwl ∧ Cond.selects mi_X4_worthOf.1.cls mi_X4_worthOf.1 mi_X4_worthOf.1 ∈ gwl := ⟨gwl_in4 35 rfl rfl, gwl_in0 25 rfl rfl⟩
set_option maxRecDepth 100000 in
theorem cd_X4_worthOf : Cond.code mi_X4_worthOf.1 (mi_C mi_X4_worthOf) (mi_L mi_X4_worthOf) (mi_R mi_X4_worthOf) ∈ gwl ∧ Cond.initialized mi_X4_worthOf.1.cls ∈ gwl ∧ mi_X4_worthOf.1.cls ≠ "java/lang/invoke/MethodHandle" ∧ mi_X4_worthOf.1.cls ≠ "java/lang/invoke/VarHandle" ∧ (parseMethodDescriptor mi_X4_worthOf.1.desc).map (fun d => d.parameters.length) = some 5 := ⟨gwl_in4 36 rfl rfl, gwl_in1 7 rfl rfl, by decide +kernel, by decide +kernel, by decide +kernel⟩
set_option maxRecDepth 100000 in
theorem vt_X5_isNothing : Cond.instanceMethod mi_X5_isNothing.1 ∈ gwl ∧ Cond.selects mi_X5_isNothing.1.cls mi_X5_isNothing.1 mi_X5_isNothing.1 ∈ gwl := ⟨gwl_in4 62 rfl rfl, gwl_in4 63 rfl rfl⟩
set_option maxRecDepth 100000 in
theorem cd_X5_isNothing : Cond.code mi_X5_isNothing.1 (mi_C mi_X5_isNothing) (mi_L mi_X5_isNothing) (mi_R mi_X5_isNothing) ∈ gwl ∧ Cond.initialized mi_X5_isNothing.1.cls ∈ gwl ∧ mi_X5_isNothing.1.cls ≠ "java/lang/invoke/MethodHandle" ∧ mi_X5_isNothing.1.cls ≠ "java/lang/invoke/VarHandle" ∧ (parseMethodDescriptor mi_X5_isNothing.1.desc).map (fun d => d.parameters.length) = some 1 := ⟨gwl_in4 64 rfl rfl, gwl_in1 10 rfl rfl, by decide +kernel, by decide +kernel, by decide +kernel⟩
set_option maxRecDepth 100000 in
theorem st_J7_fill_53178 : Cond.static mi_J7_fill_53178.1 ∈ gwl := gwl_in4 90 rfl rfl
set_option maxRecDepth 100000 in
theorem cd_J7_fill_53178 : Cond.code mi_J7_fill_53178.1 (mi_C mi_J7_fill_53178) (mi_L mi_J7_fill_53178) (mi_R mi_J7_fill_53178) ∈ gwl ∧ Cond.initialized mi_J7_fill_53178.1.cls ∈ gwl ∧ mi_J7_fill_53178.1.cls ≠ "java/lang/invoke/MethodHandle" ∧ mi_J7_fill_53178.1.cls ≠ "java/lang/invoke/VarHandle" ∧ (parseMethodDescriptor mi_J7_fill_53178.1.desc).map (fun d => d.parameters.length) = some 2 := ⟨gwl_in4 91 rfl rfl, gwl_in1 15 rfl rfl, by decide +kernel, by decide +kernel, by decide +kernel⟩
set_option maxRecDepth 100000 in
theorem vt_X6_explains : Cond.instanceMethod mi_X6_explains.1 ∈ gwl ∧ Cond.selects mi_X6_explains.1.cls mi_X6_explains.1 mi_X6_explains.1 ∈ gwl := ⟨gwl_in4 87 rfl rfl, gwl_in0 27 rfl rfl⟩
set_option maxRecDepth 100000 in
theorem cd_X6_explains : Cond.code mi_X6_explains.1 (mi_C mi_X6_explains) (mi_L mi_X6_explains) (mi_R mi_X6_explains) ∈ gwl ∧ Cond.initialized mi_X6_explains.1.cls ∈ gwl ∧ mi_X6_explains.1.cls ≠ "java/lang/invoke/MethodHandle" ∧ mi_X6_explains.1.cls ≠ "java/lang/invoke/VarHandle" ∧ (parseMethodDescriptor mi_X6_explains.1.desc).map (fun d => d.parameters.length) = some 4 := ⟨gwl_in4 88 rfl rfl, gwl_in1 8 rfl rfl, by decide +kernel, by decide +kernel, by decide +kernel⟩
set_option maxRecDepth 100000 in
theorem vt_X6_triedCracks : Cond.instanceMethod mi_X6_triedCracks.1 ∈ gwl ∧ Cond.selects mi_X6_triedCracks.1.cls mi_X6_triedCracks.1 mi_X6_triedCracks.1 ∈ gwl := ⟨gwl_in4 103 rfl rfl, gwl_in0 29 rfl rfl⟩
set_option maxRecDepth 100000 in
theorem cd_X6_triedCracks : Cond.code mi_X6_triedCracks.1 (mi_C mi_X6_triedCracks) (mi_L mi_X6_triedCracks) (mi_R mi_X6_triedCracks) ∈ gwl ∧ Cond.initialized mi_X6_triedCracks.1.cls ∈ gwl ∧ mi_X6_triedCracks.1.cls ≠ "java/lang/invoke/MethodHandle" ∧ mi_X6_triedCracks.1.cls ≠ "java/lang/invoke/VarHandle" ∧ (parseMethodDescriptor mi_X6_triedCracks.1.desc).map (fun d => d.parameters.length) = some 0 := ⟨gwl_in4 104 rfl rfl, gwl_in1 8 rfl rfl, by decide +kernel, by decide +kernel, by decide +kernel⟩
set_option maxRecDepth 100000 in
theorem st_X9_leastOf : Cond.static mi_X9_leastOf.1 ∈ gwl := gwl_in3 159 rfl rfl
set_option maxRecDepth 100000 in
theorem cd_X9_leastOf : Cond.code mi_X9_leastOf.1 (mi_C mi_X9_leastOf) (mi_L mi_X9_leastOf) (mi_R mi_X9_leastOf) ∈ gwl ∧ Cond.initialized mi_X9_leastOf.1.cls ∈ gwl ∧ mi_X9_leastOf.1.cls ≠ "java/lang/invoke/MethodHandle" ∧ mi_X9_leastOf.1.cls ≠ "java/lang/invoke/VarHandle" ∧ (parseMethodDescriptor mi_X9_leastOf.1.desc).map (fun d => d.parameters.length) = some 1 := ⟨gwl_in3 160 rfl rfl, gwl_in1 1 rfl rfl, by decide +kernel, by decide +kernel, by decide +kernel⟩
set_option maxRecDepth 100000 in
theorem vt_X6_agrees : Cond.instanceMethod mi_X6_agrees.1 ∈ gwl ∧ Cond.selects mi_X6_agrees.1.cls mi_X6_agrees.1 mi_X6_agrees.1 ∈ gwl := ⟨gwl_in4 95 rfl rfl, gwl_in0 28 rfl rfl⟩
set_option maxRecDepth 100000 in
theorem cd_X6_agrees : Cond.code mi_X6_agrees.1 (mi_C mi_X6_agrees) (mi_L mi_X6_agrees) (mi_R mi_X6_agrees) ∈ gwl ∧ Cond.initialized mi_X6_agrees.1.cls ∈ gwl ∧ mi_X6_agrees.1.cls ≠ "java/lang/invoke/MethodHandle" ∧ mi_X6_agrees.1.cls ≠ "java/lang/invoke/VarHandle" ∧ (parseMethodDescriptor mi_X6_agrees.1.desc).map (fun d => d.parameters.length) = some 4 := ⟨gwl_in4 96 rfl rfl, gwl_in1 8 rfl rfl, by decide +kernel, by decide +kernel, by decide +kernel⟩
set_option maxRecDepth 100000 in
theorem vt_X8_bentAt : Cond.instanceMethod mi_X8_bentAt.1 ∈ gwl ∧ Cond.selects mi_X8_bentAt.1.cls mi_X8_bentAt.1 mi_X8_bentAt.1 ∈ gwl := ⟨gwl_in2 208 rfl rfl, gwl_in2 209 rfl rfl⟩
set_option maxRecDepth 100000 in
theorem cd_X8_bentAt : Cond.code mi_X8_bentAt.1 (mi_C mi_X8_bentAt) (mi_L mi_X8_bentAt) (mi_R mi_X8_bentAt) ∈ gwl ∧ Cond.initialized mi_X8_bentAt.1.cls ∈ gwl ∧ mi_X8_bentAt.1.cls ≠ "java/lang/invoke/MethodHandle" ∧ mi_X8_bentAt.1.cls ≠ "java/lang/invoke/VarHandle" ∧ (parseMethodDescriptor mi_X8_bentAt.1.desc).map (fun d => d.parameters.length) = some 2 := ⟨gwl_in2 210 rfl rfl, gwl_in1 3 rfl rfl, by decide +kernel, by decide +kernel, by decide +kernel⟩
set_option maxRecDepth 100000 in
theorem vt_X6_crackedBits : Cond.instanceMethod mi_X6_crackedBits.1 ∈ gwl ∧ Cond.selects mi_X6_crackedBits.1.cls mi_X6_crackedBits.1 mi_X6_crackedBits.1 ∈ gwl := ⟨gwl_in4 112 rfl rfl, gwl_in0 30 rfl rfl⟩
set_option maxRecDepth 100000 in
theorem cd_X6_crackedBits : Cond.code mi_X6_crackedBits.1 (mi_C mi_X6_crackedBits) (mi_L mi_X6_crackedBits) (mi_R mi_X6_crackedBits) ∈ gwl ∧ Cond.initialized mi_X6_crackedBits.1.cls ∈ gwl ∧ mi_X6_crackedBits.1.cls ≠ "java/lang/invoke/MethodHandle" ∧ mi_X6_crackedBits.1.cls ≠ "java/lang/invoke/VarHandle" ∧ (parseMethodDescriptor mi_X6_crackedBits.1.desc).map (fun d => d.parameters.length) = some 0 := ⟨gwl_in4 113 rfl rfl, gwl_in1 8 rfl rfl, by decide +kernel, by decide +kernel, by decide +kernel⟩
set_option maxRecDepth 100000 in
theorem vt_X7_whistlesOf : Cond.instanceMethod mi_X7_whistlesOf.1 ∈ gwl ∧ Cond.selects mi_X7_whistlesOf.1.cls mi_X7_whistlesOf.1 mi_X7_whistlesOf.1 ∈ gwl := ⟨gwl_in3 155 rfl rfl, gwl_in3 156 rfl rfl⟩
set_option maxRecDepth 100000 in
theorem cd_X7_whistlesOf : Cond.code mi_X7_whistlesOf.1 (mi_C mi_X7_whistlesOf) (mi_L mi_X7_whistlesOf) (mi_R mi_X7_whistlesOf) ∈ gwl ∧ Cond.initialized mi_X7_whistlesOf.1.cls ∈ gwl ∧ mi_X7_whistlesOf.1.cls ≠ "java/lang/invoke/MethodHandle" ∧ mi_X7_whistlesOf.1.cls ≠ "java/lang/invoke/VarHandle" ∧ (parseMethodDescriptor mi_X7_whistlesOf.1.desc).map (fun d => d.parameters.length) = some 1 := ⟨gwl_in3 157 rfl rfl, gwl_in1 6 rfl rfl, by decide +kernel, by decide +kernel, by decide +kernel⟩
set_option maxRecDepth 100000 in
theorem st_X9_greatestOf : Cond.static mi_X9_greatestOf.1 ∈ gwl := gwl_in3 163 rfl rfl
set_option maxRecDepth 100000 in
theorem cd_X9_greatestOf : Cond.code mi_X9_greatestOf.1 (mi_C mi_X9_greatestOf) (mi_L mi_X9_greatestOf) (mi_R mi_X9_greatestOf) ∈ gwl ∧ Cond.initialized mi_X9_greatestOf.1.cls ∈ gwl ∧ mi_X9_greatestOf.1.cls ≠ "java/lang/invoke/MethodHandle" ∧ mi_X9_greatestOf.1.cls ≠ "java/lang/invoke/VarHandle" ∧ (parseMethodDescriptor mi_X9_greatestOf.1.desc).map (fun d => d.parameters.length) = some 1 := ⟨gwl_in3 164 rfl rfl, gwl_in1 1 rfl rfl, by decide +kernel, by decide +kernel, by decide +kernel⟩
set_option maxRecDepth 100000 in
theorem vt_X8_all : Cond.instanceMethod mi_X8_all.1 ∈ gwl ∧ Cond.selects mi_X8_all.1.cls mi_X8_all.1 mi_X8_all.1 ∈ gwl := ⟨gwl_in2 196 rfl rfl, gwl_in2 197 rfl rfl⟩
set_option maxRecDepth 100000 in
theorem cd_X8_all : Cond.code mi_X8_all.1 (mi_C mi_X8_all) (mi_L mi_X8_all) (mi_R mi_X8_all) ∈ gwl ∧ Cond.initialized mi_X8_all.1.cls ∈ gwl ∧ mi_X8_all.1.cls ≠ "java/lang/invoke/MethodHandle" ∧ mi_X8_all.1.cls ≠ "java/lang/invoke/VarHandle" ∧ (parseMethodDescriptor mi_X8_all.1.desc).map (fun d => d.parameters.length) = some 0 := ⟨gwl_in2 198 rfl rfl, gwl_in1 3 rfl rfl, by decide +kernel, by decide +kernel, by decide +kernel⟩
set_option maxRecDepth 100000 in
theorem st_J9_floorDiv_7cf53 : Cond.static mi_J9_floorDiv_7cf53.1 ∈ gwl := gwl_in2 212 rfl rfl
set_option maxRecDepth 100000 in
theorem cd_J9_floorDiv_7cf53 : Cond.code mi_J9_floorDiv_7cf53.1 (mi_C mi_J9_floorDiv_7cf53) (mi_L mi_J9_floorDiv_7cf53) (mi_R mi_J9_floorDiv_7cf53) ∈ gwl ∧ Cond.initialized mi_J9_floorDiv_7cf53.1.cls ∈ gwl ∧ mi_J9_floorDiv_7cf53.1.cls ≠ "java/lang/invoke/MethodHandle" ∧ mi_J9_floorDiv_7cf53.1.cls ≠ "java/lang/invoke/VarHandle" ∧ (parseMethodDescriptor mi_J9_floorDiv_7cf53.1.desc).map (fun d => d.parameters.length) = some 2 := ⟨gwl_in2 213 rfl rfl, gwl_in1 13 rfl rfl, by decide +kernel, by decide +kernel, by decide +kernel⟩
set_option maxRecDepth 100000 in
theorem vt_X8_offAt : Cond.instanceMethod mi_X8_offAt.1 ∈ gwl ∧ Cond.selects mi_X8_offAt.1.cls mi_X8_offAt.1 mi_X8_offAt.1 ∈ gwl := ⟨gwl_in2 204 rfl rfl, gwl_in2 205 rfl rfl⟩
set_option maxRecDepth 100000 in
theorem cd_X8_offAt : Cond.code mi_X8_offAt.1 (mi_C mi_X8_offAt) (mi_L mi_X8_offAt) (mi_R mi_X8_offAt) ∈ gwl ∧ Cond.initialized mi_X8_offAt.1.cls ∈ gwl ∧ mi_X8_offAt.1.cls ≠ "java/lang/invoke/MethodHandle" ∧ mi_X8_offAt.1.cls ≠ "java/lang/invoke/VarHandle" ∧ (parseMethodDescriptor mi_X8_offAt.1.desc).map (fun d => d.parameters.length) = some 2 := ⟨gwl_in2 206 rfl rfl, gwl_in1 3 rfl rfl, by decide +kernel, by decide +kernel, by decide +kernel⟩
set_option maxRecDepth 100000 in
theorem st_J9_abs_0f7a4 : Cond.static mi_J9_abs_0f7a4.1 ∈ gwl := gwl_in2 215 rfl rfl
set_option maxRecDepth 100000 in
theorem cd_J9_abs_0f7a4 : Cond.code mi_J9_abs_0f7a4.1 (mi_C mi_J9_abs_0f7a4) (mi_L mi_J9_abs_0f7a4) (mi_R mi_J9_abs_0f7a4) ∈ gwl ∧ Cond.initialized mi_J9_abs_0f7a4.1.cls ∈ gwl ∧ mi_J9_abs_0f7a4.1.cls ≠ "java/lang/invoke/MethodHandle" ∧ mi_J9_abs_0f7a4.1.cls ≠ "java/lang/invoke/VarHandle" ∧ (parseMethodDescriptor mi_J9_abs_0f7a4.1.desc).map (fun d => d.parameters.length) = some 1 := ⟨gwl_in2 216 rfl rfl, gwl_in1 13 rfl rfl, by decide +kernel, by decide +kernel, by decide +kernel⟩
set_option maxRecDepth 100000 in
theorem in_X1_init : Cond.instanceMethod mi_X1_init.1 ∈ gwl ∧ mi_X1_init.1.name = "<init>" ∧ mi_R mi_X1_init = none := ⟨gwl_in1 27 rfl rfl, rfl, rfl⟩
set_option maxRecDepth 100000 in
theorem cd_X1_init : Cond.code mi_X1_init.1 (mi_C mi_X1_init) (mi_L mi_X1_init) (mi_R mi_X1_init) ∈ gwl ∧ Cond.initialized mi_X1_init.1.cls ∈ gwl ∧ mi_X1_init.1.cls ≠ "java/lang/invoke/MethodHandle" ∧ mi_X1_init.1.cls ≠ "java/lang/invoke/VarHandle" ∧ (parseMethodDescriptor mi_X1_init.1.desc).map (fun d => d.parameters.length) = some 0 := ⟨gwl_in1 28 rfl rfl, gwl_in1 2 rfl rfl, by decide +kernel, by decide +kernel, by decide +kernel⟩
set_option maxRecDepth 100000 in
theorem in_X8_init : Cond.instanceMethod mi_X8_init.1 ∈ gwl ∧ mi_X8_init.1.name = "<init>" ∧ mi_R mi_X8_init = none := ⟨gwl_in1 61 rfl rfl, rfl, rfl⟩
set_option maxRecDepth 100000 in
theorem cd_X8_init : Cond.code mi_X8_init.1 (mi_C mi_X8_init) (mi_L mi_X8_init) (mi_R mi_X8_init) ∈ gwl ∧ Cond.initialized mi_X8_init.1.cls ∈ gwl ∧ mi_X8_init.1.cls ≠ "java/lang/invoke/MethodHandle" ∧ mi_X8_init.1.cls ≠ "java/lang/invoke/VarHandle" ∧ (parseMethodDescriptor mi_X8_init.1.desc).map (fun d => d.parameters.length) = some 0 := ⟨gwl_in1 62 rfl rfl, gwl_in1 3 rfl rfl, by decide +kernel, by decide +kernel, by decide +kernel⟩
set_option maxRecDepth 100000 in
theorem in_X0_init : Cond.instanceMethod mi_X0_init.1 ∈ gwl ∧ mi_X0_init.1.name = "<init>" ∧ mi_R mi_X0_init = none := ⟨gwl_in1 110 rfl rfl, rfl, rfl⟩
set_option maxRecDepth 100000 in
theorem cd_X0_init : Cond.code mi_X0_init.1 (mi_C mi_X0_init) (mi_L mi_X0_init) (mi_R mi_X0_init) ∈ gwl ∧ Cond.initialized mi_X0_init.1.cls ∈ gwl ∧ mi_X0_init.1.cls ≠ "java/lang/invoke/MethodHandle" ∧ mi_X0_init.1.cls ≠ "java/lang/invoke/VarHandle" ∧ (parseMethodDescriptor mi_X0_init.1.desc).map (fun d => d.parameters.length) = some 0 := ⟨gwl_in1 111 rfl rfl, gwl_in1 4 rfl rfl, by decide +kernel, by decide +kernel, by decide +kernel⟩
set_option maxRecDepth 100000 in
theorem in_X2_init : Cond.instanceMethod mi_X2_init.1 ∈ gwl ∧ mi_X2_init.1.name = "<init>" ∧ mi_R mi_X2_init = none := ⟨gwl_in1 133 rfl rfl, rfl, rfl⟩
set_option maxRecDepth 100000 in
theorem cd_X2_init : Cond.code mi_X2_init.1 (mi_C mi_X2_init) (mi_L mi_X2_init) (mi_R mi_X2_init) ∈ gwl ∧ Cond.initialized mi_X2_init.1.cls ∈ gwl ∧ mi_X2_init.1.cls ≠ "java/lang/invoke/MethodHandle" ∧ mi_X2_init.1.cls ≠ "java/lang/invoke/VarHandle" ∧ (parseMethodDescriptor mi_X2_init.1.desc).map (fun d => d.parameters.length) = some 0 := ⟨gwl_in1 134 rfl rfl, gwl_in1 5 rfl rfl, by decide +kernel, by decide +kernel, by decide +kernel⟩
set_option maxRecDepth 100000 in
theorem in_X7_init : Cond.instanceMethod mi_X7_init.1 ∈ gwl ∧ mi_X7_init.1.name = "<init>" ∧ mi_R mi_X7_init = none := ⟨gwl_in1 188 rfl rfl, rfl, rfl⟩
set_option maxRecDepth 100000 in
theorem cd_X7_init : Cond.code mi_X7_init.1 (mi_C mi_X7_init) (mi_L mi_X7_init) (mi_R mi_X7_init) ∈ gwl ∧ Cond.initialized mi_X7_init.1.cls ∈ gwl ∧ mi_X7_init.1.cls ≠ "java/lang/invoke/MethodHandle" ∧ mi_X7_init.1.cls ≠ "java/lang/invoke/VarHandle" ∧ (parseMethodDescriptor mi_X7_init.1.desc).map (fun d => d.parameters.length) = some 0 := ⟨gwl_in1 189 rfl rfl, gwl_in1 6 rfl rfl, by decide +kernel, by decide +kernel, by decide +kernel⟩
set_option maxRecDepth 100000 in
theorem in_X4_init : Cond.instanceMethod mi_X4_init.1 ∈ gwl ∧ mi_X4_init.1.name = "<init>" ∧ mi_R mi_X4_init = none := ⟨gwl_in1 209 rfl rfl, rfl, rfl⟩
set_option maxRecDepth 100000 in
theorem cd_X4_init : Cond.code mi_X4_init.1 (mi_C mi_X4_init) (mi_L mi_X4_init) (mi_R mi_X4_init) ∈ gwl ∧ Cond.initialized mi_X4_init.1.cls ∈ gwl ∧ mi_X4_init.1.cls ≠ "java/lang/invoke/MethodHandle" ∧ mi_X4_init.1.cls ≠ "java/lang/invoke/VarHandle" ∧ (parseMethodDescriptor mi_X4_init.1.desc).map (fun d => d.parameters.length) = some 0 := ⟨gwl_in1 210 rfl rfl, gwl_in1 7 rfl rfl, by decide +kernel, by decide +kernel, by decide +kernel⟩
set_option maxRecDepth 100000 in
theorem in_X6_init : Cond.instanceMethod mi_X6_init.1 ∈ gwl ∧ mi_X6_init.1.name = "<init>" ∧ mi_R mi_X6_init = none := ⟨gwl_in2 24 rfl rfl, rfl, rfl⟩
set_option maxRecDepth 100000 in
theorem cd_X6_init : Cond.code mi_X6_init.1 (mi_C mi_X6_init) (mi_L mi_X6_init) (mi_R mi_X6_init) ∈ gwl ∧ Cond.initialized mi_X6_init.1.cls ∈ gwl ∧ mi_X6_init.1.cls ≠ "java/lang/invoke/MethodHandle" ∧ mi_X6_init.1.cls ≠ "java/lang/invoke/VarHandle" ∧ (parseMethodDescriptor mi_X6_init.1.desc).map (fun d => d.parameters.length) = some 0 := ⟨gwl_in2 25 rfl rfl, gwl_in1 8 rfl rfl, by decide +kernel, by decide +kernel, by decide +kernel⟩
set_option maxRecDepth 100000 in
theorem in_X3_init : Cond.instanceMethod mi_X3_init.1 ∈ gwl ∧ mi_X3_init.1.name = "<init>" ∧ mi_R mi_X3_init = none := ⟨gwl_in2 55 rfl rfl, rfl, rfl⟩
set_option maxRecDepth 100000 in
theorem cd_X3_init : Cond.code mi_X3_init.1 (mi_C mi_X3_init) (mi_L mi_X3_init) (mi_R mi_X3_init) ∈ gwl ∧ Cond.initialized mi_X3_init.1.cls ∈ gwl ∧ mi_X3_init.1.cls ≠ "java/lang/invoke/MethodHandle" ∧ mi_X3_init.1.cls ≠ "java/lang/invoke/VarHandle" ∧ (parseMethodDescriptor mi_X3_init.1.desc).map (fun d => d.parameters.length) = some 0 := ⟨gwl_in2 56 rfl rfl, gwl_in1 9 rfl rfl, by decide +kernel, by decide +kernel, by decide +kernel⟩
set_option maxRecDepth 100000 in
theorem in_X5_init : Cond.instanceMethod mi_X5_init.1 ∈ gwl ∧ mi_X5_init.1.name = "<init>" ∧ mi_R mi_X5_init = none := ⟨gwl_in2 102 rfl rfl, rfl, rfl⟩
set_option maxRecDepth 100000 in
theorem cd_X5_init : Cond.code mi_X5_init.1 (mi_C mi_X5_init) (mi_L mi_X5_init) (mi_R mi_X5_init) ∈ gwl ∧ Cond.initialized mi_X5_init.1.cls ∈ gwl ∧ mi_X5_init.1.cls ≠ "java/lang/invoke/MethodHandle" ∧ mi_X5_init.1.cls ≠ "java/lang/invoke/VarHandle" ∧ (parseMethodDescriptor mi_X5_init.1.desc).map (fun d => d.parameters.length) = some 0 := ⟨gwl_in2 103 rfl rfl, gwl_in1 10 rfl rfl, by decide +kernel, by decide +kernel, by decide +kernel⟩
set_option maxRecDepth 100000 in
theorem vt_X0_keep : Cond.instanceMethod mi_X0_keep.1 ∈ gwl ∧ Cond.selects mi_X0_keep.1.cls mi_X0_keep.1 mi_X0_keep.1 ∈ gwl := ⟨gwl_in2 157 rfl rfl, gwl_in2 158 rfl rfl⟩
set_option maxRecDepth 100000 in
theorem cd_X0_keep : Cond.code mi_X0_keep.1 (mi_C mi_X0_keep) (mi_L mi_X0_keep) (mi_R mi_X0_keep) ∈ gwl ∧ Cond.initialized mi_X0_keep.1.cls ∈ gwl ∧ mi_X0_keep.1.cls ≠ "java/lang/invoke/MethodHandle" ∧ mi_X0_keep.1.cls ≠ "java/lang/invoke/VarHandle" ∧ (parseMethodDescriptor mi_X0_keep.1.desc).map (fun d => d.parameters.length) = some 2 := ⟨gwl_in2 159 rfl rfl, gwl_in1 4 rfl rfl, by decide +kernel, by decide +kernel, by decide +kernel⟩
set_option maxRecDepth 100000 in
theorem vt_X8_hasAll : Cond.instanceMethod mi_X8_hasAll.1 ∈ gwl ∧ Cond.selects mi_X8_hasAll.1.cls mi_X8_hasAll.1 mi_X8_hasAll.1 ∈ gwl := ⟨gwl_in2 192 rfl rfl, gwl_in2 193 rfl rfl⟩
set_option maxRecDepth 100000 in
theorem cd_X8_hasAll : Cond.code mi_X8_hasAll.1 (mi_C mi_X8_hasAll) (mi_L mi_X8_hasAll) (mi_R mi_X8_hasAll) ∈ gwl ∧ Cond.initialized mi_X8_hasAll.1.cls ∈ gwl ∧ mi_X8_hasAll.1.cls ≠ "java/lang/invoke/MethodHandle" ∧ mi_X8_hasAll.1.cls ≠ "java/lang/invoke/VarHandle" ∧ (parseMethodDescriptor mi_X8_hasAll.1.desc).map (fun d => d.parameters.length) = some 1 := ⟨gwl_in2 194 rfl rfl, gwl_in1 3 rfl rfl, by decide +kernel, by decide +kernel, by decide +kernel⟩
set_option maxRecDepth 100000 in
theorem vt_X8_strayOf : Cond.instanceMethod mi_X8_strayOf.1 ∈ gwl ∧ Cond.selects mi_X8_strayOf.1.cls mi_X8_strayOf.1 mi_X8_strayOf.1 ∈ gwl := ⟨gwl_in2 200 rfl rfl, gwl_in2 201 rfl rfl⟩
set_option maxRecDepth 100000 in
theorem cd_X8_strayOf : Cond.code mi_X8_strayOf.1 (mi_C mi_X8_strayOf) (mi_L mi_X8_strayOf) (mi_R mi_X8_strayOf) ∈ gwl ∧ Cond.initialized mi_X8_strayOf.1.cls ∈ gwl ∧ mi_X8_strayOf.1.cls ≠ "java/lang/invoke/MethodHandle" ∧ mi_X8_strayOf.1.cls ≠ "java/lang/invoke/VarHandle" ∧ (parseMethodDescriptor mi_X8_strayOf.1.desc).map (fun d => d.parameters.length) = some 2 := ⟨gwl_in2 202 rfl rfl, gwl_in1 3 rfl rfl, by decide +kernel, by decide +kernel, by decide +kernel⟩
set_option maxRecDepth 100000 in
theorem vt_X1_pass : Cond.instanceMethod mi_X1_pass.1 ∈ gwl ∧ Cond.selects mi_X1_pass.1.cls mi_X1_pass.1 mi_X1_pass.1 ∈ gwl := ⟨gwl_in2 221 rfl rfl, gwl_in2 222 rfl rfl⟩
set_option maxRecDepth 100000 in
theorem cd_X1_pass : Cond.code mi_X1_pass.1 (mi_C mi_X1_pass) (mi_L mi_X1_pass) (mi_R mi_X1_pass) ∈ gwl ∧ Cond.initialized mi_X1_pass.1.cls ∈ gwl ∧ mi_X1_pass.1.cls ≠ "java/lang/invoke/MethodHandle" ∧ mi_X1_pass.1.cls ≠ "java/lang/invoke/VarHandle" ∧ (parseMethodDescriptor mi_X1_pass.1.desc).map (fun d => d.parameters.length) = some 1 := ⟨gwl_in2 223 rfl rfl, gwl_in1 2 rfl rfl, by decide +kernel, by decide +kernel, by decide +kernel⟩
set_option maxRecDepth 100000 in
theorem vt_X8_add : Cond.instanceMethod mi_X8_add.1 ∈ gwl ∧ Cond.selects mi_X8_add.1.cls mi_X8_add.1 mi_X8_add.1 ∈ gwl := ⟨gwl_in2 230 rfl rfl, gwl_in2 231 rfl rfl⟩
set_option maxRecDepth 100000 in
theorem cd_X8_add : Cond.code mi_X8_add.1 (mi_C mi_X8_add) (mi_L mi_X8_add) (mi_R mi_X8_add) ∈ gwl ∧ Cond.initialized mi_X8_add.1.cls ∈ gwl ∧ mi_X8_add.1.cls ≠ "java/lang/invoke/MethodHandle" ∧ mi_X8_add.1.cls ≠ "java/lang/invoke/VarHandle" ∧ (parseMethodDescriptor mi_X8_add.1.desc).map (fun d => d.parameters.length) = some 4 := ⟨gwl_in2 232 rfl rfl, gwl_in1 3 rfl rfl, by decide +kernel, by decide +kernel, by decide +kernel⟩
set_option maxRecDepth 100000 in
theorem vt_X8_has : Cond.instanceMethod mi_X8_has.1 ∈ gwl ∧ Cond.selects mi_X8_has.1.cls mi_X8_has.1 mi_X8_has.1 ∈ gwl := ⟨gwl_in2 239 rfl rfl, gwl_in3 0 rfl rfl⟩
set_option maxRecDepth 100000 in
theorem cd_X8_has : Cond.code mi_X8_has.1 (mi_C mi_X8_has) (mi_L mi_X8_has) (mi_R mi_X8_has) ∈ gwl ∧ Cond.initialized mi_X8_has.1.cls ∈ gwl ∧ mi_X8_has.1.cls ≠ "java/lang/invoke/MethodHandle" ∧ mi_X8_has.1.cls ≠ "java/lang/invoke/VarHandle" ∧ (parseMethodDescriptor mi_X8_has.1.desc).map (fun d => d.parameters.length) = some 1 := ⟨gwl_in3 1 rfl rfl, gwl_in1 3 rfl rfl, by decide +kernel, by decide +kernel, by decide +kernel⟩
set_option maxRecDepth 100000 in
theorem vt_X8_bringNear : Cond.instanceMethod mi_X8_bringNear.1 ∈ gwl ∧ Cond.selects mi_X8_bringNear.1.cls mi_X8_bringNear.1 mi_X8_bringNear.1 ∈ gwl := ⟨gwl_in3 32 rfl rfl, gwl_in3 33 rfl rfl⟩
set_option maxRecDepth 100000 in
theorem cd_X8_bringNear : Cond.code mi_X8_bringNear.1 (mi_C mi_X8_bringNear) (mi_L mi_X8_bringNear) (mi_R mi_X8_bringNear) ∈ gwl ∧ Cond.initialized mi_X8_bringNear.1.cls ∈ gwl ∧ mi_X8_bringNear.1.cls ≠ "java/lang/invoke/MethodHandle" ∧ mi_X8_bringNear.1.cls ≠ "java/lang/invoke/VarHandle" ∧ (parseMethodDescriptor mi_X8_bringNear.1.desc).map (fun d => d.parameters.length) = some 1 := ⟨gwl_in3 34 rfl rfl, gwl_in1 3 rfl rfl, by decide +kernel, by decide +kernel, by decide +kernel⟩
set_option maxRecDepth 100000 in
theorem vt_X8_exactAt : Cond.instanceMethod mi_X8_exactAt.1 ∈ gwl ∧ Cond.selects mi_X8_exactAt.1.cls mi_X8_exactAt.1 mi_X8_exactAt.1 ∈ gwl := ⟨gwl_in3 37 rfl rfl, gwl_in3 38 rfl rfl⟩
set_option maxRecDepth 100000 in
theorem cd_X8_exactAt : Cond.code mi_X8_exactAt.1 (mi_C mi_X8_exactAt) (mi_L mi_X8_exactAt) (mi_R mi_X8_exactAt) ∈ gwl ∧ Cond.initialized mi_X8_exactAt.1.cls ∈ gwl ∧ mi_X8_exactAt.1.cls ≠ "java/lang/invoke/MethodHandle" ∧ mi_X8_exactAt.1.cls ≠ "java/lang/invoke/VarHandle" ∧ (parseMethodDescriptor mi_X8_exactAt.1.desc).map (fun d => d.parameters.length) = some 1 := ⟨gwl_in3 39 rfl rfl, gwl_in1 3 rfl rfl, by decide +kernel, by decide +kernel, by decide +kernel⟩
set_option maxRecDepth 100000 in
theorem vt_X2_append : Cond.instanceMethod mi_X2_append.1 ∈ gwl ∧ Cond.selects mi_X2_append.1.cls mi_X2_append.1 mi_X2_append.1 ∈ gwl := ⟨gwl_in3 50 rfl rfl, gwl_in3 51 rfl rfl⟩
set_option maxRecDepth 100000 in
theorem cd_X2_append : Cond.code mi_X2_append.1 (mi_C mi_X2_append) (mi_L mi_X2_append) (mi_R mi_X2_append) ∈ gwl ∧ Cond.initialized mi_X2_append.1.cls ∈ gwl ∧ mi_X2_append.1.cls ≠ "java/lang/invoke/MethodHandle" ∧ mi_X2_append.1.cls ≠ "java/lang/invoke/VarHandle" ∧ (parseMethodDescriptor mi_X2_append.1.desc).map (fun d => d.parameters.length) = some 1 := ⟨gwl_in3 52 rfl rfl, gwl_in1 5 rfl rfl, by decide +kernel, by decide +kernel, by decide +kernel⟩
set_option maxRecDepth 100000 in
theorem vt_X2_readAll : Cond.instanceMethod mi_X2_readAll.1 ∈ gwl ∧ Cond.selects mi_X2_readAll.1.cls mi_X2_readAll.1 mi_X2_readAll.1 ∈ gwl := ⟨gwl_in3 62 rfl rfl, gwl_in3 63 rfl rfl⟩
set_option maxRecDepth 100000 in
theorem cd_X2_readAll : Cond.code mi_X2_readAll.1 (mi_C mi_X2_readAll) (mi_L mi_X2_readAll) (mi_R mi_X2_readAll) ∈ gwl ∧ Cond.initialized mi_X2_readAll.1.cls ∈ gwl ∧ mi_X2_readAll.1.cls ≠ "java/lang/invoke/MethodHandle" ∧ mi_X2_readAll.1.cls ≠ "java/lang/invoke/VarHandle" ∧ (parseMethodDescriptor mi_X2_readAll.1.desc).map (fun d => d.parameters.length) = some 0 := ⟨gwl_in3 64 rfl rfl, gwl_in1 5 rfl rfl, by decide +kernel, by decide +kernel, by decide +kernel⟩
set_option maxRecDepth 100000 in
theorem vt_X7_add : Cond.instanceMethod mi_X7_add.1 ∈ gwl ∧ Cond.selects mi_X7_add.1.cls mi_X7_add.1 mi_X7_add.1 ∈ gwl := ⟨gwl_in3 128 rfl rfl, gwl_in3 129 rfl rfl⟩
set_option maxRecDepth 100000 in
theorem cd_X7_add : Cond.code mi_X7_add.1 (mi_C mi_X7_add) (mi_L mi_X7_add) (mi_R mi_X7_add) ∈ gwl ∧ Cond.initialized mi_X7_add.1.cls ∈ gwl ∧ mi_X7_add.1.cls ≠ "java/lang/invoke/MethodHandle" ∧ mi_X7_add.1.cls ≠ "java/lang/invoke/VarHandle" ∧ (parseMethodDescriptor mi_X7_add.1.desc).map (fun d => d.parameters.length) = some 2 := ⟨gwl_in3 130 rfl rfl, gwl_in1 6 rfl rfl, by decide +kernel, by decide +kernel, by decide +kernel⟩
set_option maxRecDepth 100000 in
theorem vt_X7_has : Cond.instanceMethod mi_X7_has.1 ∈ gwl ∧ Cond.selects mi_X7_has.1.cls mi_X7_has.1 mi_X7_has.1 ∈ gwl := ⟨gwl_in3 141 rfl rfl, gwl_in3 142 rfl rfl⟩
set_option maxRecDepth 100000 in
theorem cd_X7_has : Cond.code mi_X7_has.1 (mi_C mi_X7_has) (mi_L mi_X7_has) (mi_R mi_X7_has) ∈ gwl ∧ Cond.initialized mi_X7_has.1.cls ∈ gwl ∧ mi_X7_has.1.cls ≠ "java/lang/invoke/MethodHandle" ∧ mi_X7_has.1.cls ≠ "java/lang/invoke/VarHandle" ∧ (parseMethodDescriptor mi_X7_has.1.desc).map (fun d => d.parameters.length) = some 1 := ⟨gwl_in3 143 rfl rfl, gwl_in1 6 rfl rfl, by decide +kernel, by decide +kernel, by decide +kernel⟩
set_option maxRecDepth 100000 in
theorem vt_X7_sounding : Cond.instanceMethod mi_X7_sounding.1 ∈ gwl ∧ Cond.selects mi_X7_sounding.1.cls mi_X7_sounding.1 mi_X7_sounding.1 ∈ gwl := ⟨gwl_in3 145 rfl rfl, gwl_in3 146 rfl rfl⟩
set_option maxRecDepth 100000 in
theorem cd_X7_sounding : Cond.code mi_X7_sounding.1 (mi_C mi_X7_sounding) (mi_L mi_X7_sounding) (mi_R mi_X7_sounding) ∈ gwl ∧ Cond.initialized mi_X7_sounding.1.cls ∈ gwl ∧ mi_X7_sounding.1.cls ≠ "java/lang/invoke/MethodHandle" ∧ mi_X7_sounding.1.cls ≠ "java/lang/invoke/VarHandle" ∧ (parseMethodDescriptor mi_X7_sounding.1.desc).map (fun d => d.parameters.length) = some 1 := ⟨gwl_in3 147 rfl rfl, gwl_in1 6 rfl rfl, by decide +kernel, by decide +kernel, by decide +kernel⟩
set_option maxRecDepth 100000 in
theorem vt_X9_isBeat : Cond.instanceMethod mi_X9_isBeat.1 ∈ gwl ∧ Cond.selects mi_X9_isBeat.1.cls mi_X9_isBeat.1 mi_X9_isBeat.1 ∈ gwl := ⟨gwl_in3 167 rfl rfl, gwl_in0 15 rfl rfl⟩
set_option maxRecDepth 100000 in
theorem cd_X9_isBeat : Cond.code mi_X9_isBeat.1 (mi_C mi_X9_isBeat) (mi_L mi_X9_isBeat) (mi_R mi_X9_isBeat) ∈ gwl ∧ Cond.initialized mi_X9_isBeat.1.cls ∈ gwl ∧ mi_X9_isBeat.1.cls ≠ "java/lang/invoke/MethodHandle" ∧ mi_X9_isBeat.1.cls ≠ "java/lang/invoke/VarHandle" ∧ (parseMethodDescriptor mi_X9_isBeat.1.desc).map (fun d => d.parameters.length) = some 3 := ⟨gwl_in3 168 rfl rfl, gwl_in1 1 rfl rfl, by decide +kernel, by decide +kernel, by decide +kernel⟩
set_option maxRecDepth 100000 in
theorem vt_X9_tryOut : Cond.instanceMethod mi_X9_tryOut.1 ∈ gwl ∧ Cond.selects mi_X9_tryOut.1.cls mi_X9_tryOut.1 mi_X9_tryOut.1 ∈ gwl := ⟨gwl_in3 175 rfl rfl, gwl_in0 16 rfl rfl⟩
set_option maxRecDepth 100000 in
theorem cd_X9_tryOut : Cond.code mi_X9_tryOut.1 (mi_C mi_X9_tryOut) (mi_L mi_X9_tryOut) (mi_R mi_X9_tryOut) ∈ gwl ∧ Cond.initialized mi_X9_tryOut.1.cls ∈ gwl ∧ mi_X9_tryOut.1.cls ≠ "java/lang/invoke/MethodHandle" ∧ mi_X9_tryOut.1.cls ≠ "java/lang/invoke/VarHandle" ∧ (parseMethodDescriptor mi_X9_tryOut.1.desc).map (fun d => d.parameters.length) = some 2 := ⟨gwl_in3 176 rfl rfl, gwl_in1 1 rfl rfl, by decide +kernel, by decide +kernel, by decide +kernel⟩
set_option maxRecDepth 100000 in
theorem vt_X1_copyFrom : Cond.instanceMethod mi_X1_copyFrom.1 ∈ gwl ∧ Cond.selects mi_X1_copyFrom.1.cls mi_X1_copyFrom.1 mi_X1_copyFrom.1 ∈ gwl := ⟨gwl_in3 188 rfl rfl, gwl_in3 189 rfl rfl⟩
set_option maxRecDepth 100000 in
theorem cd_X1_copyFrom : Cond.code mi_X1_copyFrom.1 (mi_C mi_X1_copyFrom) (mi_L mi_X1_copyFrom) (mi_R mi_X1_copyFrom) ∈ gwl ∧ Cond.initialized mi_X1_copyFrom.1.cls ∈ gwl ∧ mi_X1_copyFrom.1.cls ≠ "java/lang/invoke/MethodHandle" ∧ mi_X1_copyFrom.1.cls ≠ "java/lang/invoke/VarHandle" ∧ (parseMethodDescriptor mi_X1_copyFrom.1.desc).map (fun d => d.parameters.length) = some 1 := ⟨gwl_in3 190 rfl rfl, gwl_in1 2 rfl rfl, by decide +kernel, by decide +kernel, by decide +kernel⟩
set_option maxRecDepth 100000 in
theorem st_X9_isKey : Cond.static mi_X9_isKey.1 ∈ gwl := gwl_in3 178 rfl rfl
set_option maxRecDepth 100000 in
theorem cd_X9_isKey : Cond.code mi_X9_isKey.1 (mi_C mi_X9_isKey) (mi_L mi_X9_isKey) (mi_R mi_X9_isKey) ∈ gwl ∧ Cond.initialized mi_X9_isKey.1.cls ∈ gwl ∧ mi_X9_isKey.1.cls ≠ "java/lang/invoke/MethodHandle" ∧ mi_X9_isKey.1.cls ≠ "java/lang/invoke/VarHandle" ∧ (parseMethodDescriptor mi_X9_isKey.1.desc).map (fun d => d.parameters.length) = some 1 := ⟨gwl_in3 179 rfl rfl, gwl_in1 1 rfl rfl, by decide +kernel, by decide +kernel, by decide +kernel⟩
set_option maxRecDepth 100000 in
theorem vt_X7_goes : Cond.instanceMethod mi_X7_goes.1 ∈ gwl ∧ Cond.selects mi_X7_goes.1.cls mi_X7_goes.1 mi_X7_goes.1 ∈ gwl := ⟨gwl_in3 181 rfl rfl, gwl_in3 182 rfl rfl⟩
set_option maxRecDepth 100000 in
theorem cd_X7_goes : Cond.code mi_X7_goes.1 (mi_C mi_X7_goes) (mi_L mi_X7_goes) (mi_R mi_X7_goes) ∈ gwl ∧ Cond.initialized mi_X7_goes.1.cls ∈ gwl ∧ mi_X7_goes.1.cls ≠ "java/lang/invoke/MethodHandle" ∧ mi_X7_goes.1.cls ≠ "java/lang/invoke/VarHandle" ∧ (parseMethodDescriptor mi_X7_goes.1.desc).map (fun d => d.parameters.length) = some 3 := ⟨gwl_in3 183 rfl rfl, gwl_in1 6 rfl rfl, by decide +kernel, by decide +kernel, by decide +kernel⟩
set_option maxRecDepth 100000 in
theorem vt_X4_isFor : Cond.instanceMethod mi_X4_isFor.1 ∈ gwl ∧ Cond.selects mi_X4_isFor.1.cls mi_X4_isFor.1 mi_X4_isFor.1 ∈ gwl := ⟨gwl_in3 210 rfl rfl, gwl_in3 211 rfl rfl⟩
set_option maxRecDepth 100000 in
theorem cd_X4_isFor : Cond.code mi_X4_isFor.1 (mi_C mi_X4_isFor) (mi_L mi_X4_isFor) (mi_R mi_X4_isFor) ∈ gwl ∧ Cond.initialized mi_X4_isFor.1.cls ∈ gwl ∧ mi_X4_isFor.1.cls ≠ "java/lang/invoke/MethodHandle" ∧ mi_X4_isFor.1.cls ≠ "java/lang/invoke/VarHandle" ∧ (parseMethodDescriptor mi_X4_isFor.1.desc).map (fun d => d.parameters.length) = some 5 := ⟨gwl_in3 212 rfl rfl, gwl_in1 7 rfl rfl, by decide +kernel, by decide +kernel, by decide +kernel⟩
set_option maxRecDepth 100000 in
theorem vt_X4_takeTune : Cond.instanceMethod mi_X4_takeTune.1 ∈ gwl ∧ Cond.selects mi_X4_takeTune.1.cls mi_X4_takeTune.1 mi_X4_takeTune.1 ∈ gwl := ⟨gwl_in3 214 rfl rfl, gwl_in3 215 rfl rfl⟩
set_option maxRecDepth 100000 in
theorem cd_X4_takeTune : Cond.code mi_X4_takeTune.1 (mi_C mi_X4_takeTune) (mi_L mi_X4_takeTune) (mi_R mi_X4_takeTune) ∈ gwl ∧ Cond.initialized mi_X4_takeTune.1.cls ∈ gwl ∧ mi_X4_takeTune.1.cls ≠ "java/lang/invoke/MethodHandle" ∧ mi_X4_takeTune.1.cls ≠ "java/lang/invoke/VarHandle" ∧ (parseMethodDescriptor mi_X4_takeTune.1.desc).map (fun d => d.parameters.length) = some 3 := ⟨gwl_in3 216 rfl rfl, gwl_in1 7 rfl rfl, by decide +kernel, by decide +kernel, by decide +kernel⟩
set_option maxRecDepth 100000 in
theorem vt_X4_solve : Cond.instanceMethod mi_X4_solve.1 ∈ gwl ∧ Cond.selects mi_X4_solve.1.cls mi_X4_solve.1 mi_X4_solve.1 ∈ gwl := ⟨gwl_in3 219 rfl rfl, gwl_in3 220 rfl rfl⟩
set_option maxRecDepth 100000 in
theorem cd_X4_solve : Cond.code mi_X4_solve.1 (mi_C mi_X4_solve) (mi_L mi_X4_solve) (mi_R mi_X4_solve) ∈ gwl ∧ Cond.initialized mi_X4_solve.1.cls ∈ gwl ∧ mi_X4_solve.1.cls ≠ "java/lang/invoke/MethodHandle" ∧ mi_X4_solve.1.cls ≠ "java/lang/invoke/VarHandle" ∧ (parseMethodDescriptor mi_X4_solve.1.desc).map (fun d => d.parameters.length) = some 4 := ⟨gwl_in3 221 rfl rfl, gwl_in1 7 rfl rfl, by decide +kernel, by decide +kernel, by decide +kernel⟩
set_option maxRecDepth 100000 in
theorem vt_X4_remember : Cond.instanceMethod mi_X4_remember.1 ∈ gwl ∧ Cond.selects mi_X4_remember.1.cls mi_X4_remember.1 mi_X4_remember.1 ∈ gwl := ⟨gwl_in4 38 rfl rfl, gwl_in4 39 rfl rfl⟩
set_option maxRecDepth 100000 in
theorem cd_X4_remember : Cond.code mi_X4_remember.1 (mi_C mi_X4_remember) (mi_L mi_X4_remember) (mi_R mi_X4_remember) ∈ gwl ∧ Cond.initialized mi_X4_remember.1.cls ∈ gwl ∧ mi_X4_remember.1.cls ≠ "java/lang/invoke/MethodHandle" ∧ mi_X4_remember.1.cls ≠ "java/lang/invoke/VarHandle" ∧ (parseMethodDescriptor mi_X4_remember.1.desc).map (fun d => d.parameters.length) = some 5 := ⟨gwl_in4 40 rfl rfl, gwl_in1 7 rfl rfl, by decide +kernel, by decide +kernel, by decide +kernel⟩
set_option maxRecDepth 100000 in
theorem vt_X4_answer : Cond.instanceMethod mi_X4_answer.1 ∈ gwl ∧ Cond.selects mi_X4_answer.1.cls mi_X4_answer.1 mi_X4_answer.1 ∈ gwl := ⟨gwl_in4 42 rfl rfl, gwl_in4 43 rfl rfl⟩
set_option maxRecDepth 100000 in
theorem cd_X4_answer : Cond.code mi_X4_answer.1 (mi_C mi_X4_answer) (mi_L mi_X4_answer) (mi_R mi_X4_answer) ∈ gwl ∧ Cond.initialized mi_X4_answer.1.cls ∈ gwl ∧ mi_X4_answer.1.cls ≠ "java/lang/invoke/MethodHandle" ∧ mi_X4_answer.1.cls ≠ "java/lang/invoke/VarHandle" ∧ (parseMethodDescriptor mi_X4_answer.1.desc).map (fun d => d.parameters.length) = some 1 := ⟨gwl_in4 44 rfl rfl, gwl_in1 7 rfl rfl, by decide +kernel, by decide +kernel, by decide +kernel⟩
set_option maxRecDepth 100000 in
theorem vt_X5_has : Cond.instanceMethod mi_X5_has.1 ∈ gwl ∧ Cond.selects mi_X5_has.1.cls mi_X5_has.1 mi_X5_has.1 ∈ gwl := ⟨gwl_in4 50 rfl rfl, gwl_in4 51 rfl rfl⟩
set_option maxRecDepth 100000 in
theorem cd_X5_has : Cond.code mi_X5_has.1 (mi_C mi_X5_has) (mi_L mi_X5_has) (mi_R mi_X5_has) ∈ gwl ∧ Cond.initialized mi_X5_has.1.cls ∈ gwl ∧ mi_X5_has.1.cls ≠ "java/lang/invoke/MethodHandle" ∧ mi_X5_has.1.cls ≠ "java/lang/invoke/VarHandle" ∧ (parseMethodDescriptor mi_X5_has.1.desc).map (fun d => d.parameters.length) = some 1 := ⟨gwl_in4 52 rfl rfl, gwl_in1 10 rfl rfl, by decide +kernel, by decide +kernel, by decide +kernel⟩
set_option maxRecDepth 100000 in
theorem vt_X5_isLane : Cond.instanceMethod mi_X5_isLane.1 ∈ gwl ∧ Cond.selects mi_X5_isLane.1.cls mi_X5_isLane.1 mi_X5_isLane.1 ∈ gwl := ⟨gwl_in4 54 rfl rfl, gwl_in4 55 rfl rfl⟩
set_option maxRecDepth 100000 in
theorem cd_X5_isLane : Cond.code mi_X5_isLane.1 (mi_C mi_X5_isLane) (mi_L mi_X5_isLane) (mi_R mi_X5_isLane) ∈ gwl ∧ Cond.initialized mi_X5_isLane.1.cls ∈ gwl ∧ mi_X5_isLane.1.cls ≠ "java/lang/invoke/MethodHandle" ∧ mi_X5_isLane.1.cls ≠ "java/lang/invoke/VarHandle" ∧ (parseMethodDescriptor mi_X5_isLane.1.desc).map (fun d => d.parameters.length) = some 1 := ⟨gwl_in4 56 rfl rfl, gwl_in1 10 rfl rfl, by decide +kernel, by decide +kernel, by decide +kernel⟩
set_option maxRecDepth 100000 in
theorem vt_X5_faultAs : Cond.instanceMethod mi_X5_faultAs.1 ∈ gwl ∧ Cond.selects mi_X5_faultAs.1.cls mi_X5_faultAs.1 mi_X5_faultAs.1 ∈ gwl := ⟨gwl_in4 58 rfl rfl, gwl_in4 59 rfl rfl⟩
set_option maxRecDepth 100000 in
theorem cd_X5_faultAs : Cond.code mi_X5_faultAs.1 (mi_C mi_X5_faultAs) (mi_L mi_X5_faultAs) (mi_R mi_X5_faultAs) ∈ gwl ∧ Cond.initialized mi_X5_faultAs.1.cls ∈ gwl ∧ mi_X5_faultAs.1.cls ≠ "java/lang/invoke/MethodHandle" ∧ mi_X5_faultAs.1.cls ≠ "java/lang/invoke/VarHandle" ∧ (parseMethodDescriptor mi_X5_faultAs.1.desc).map (fun d => d.parameters.length) = some 2 := ⟨gwl_in4 60 rfl rfl, gwl_in1 10 rfl rfl, by decide +kernel, by decide +kernel, by decide +kernel⟩
set_option maxRecDepth 100000 in
theorem vt_X9_takeHeard : Cond.instanceMethod mi_X9_takeHeard.1 ∈ gwl ∧ Cond.selects mi_X9_takeHeard.1.cls mi_X9_takeHeard.1 mi_X9_takeHeard.1 ∈ gwl := ⟨gwl_in4 67 rfl rfl, gwl_in0 26 rfl rfl⟩
set_option maxRecDepth 100000 in
theorem cd_X9_takeHeard : Cond.code mi_X9_takeHeard.1 (mi_C mi_X9_takeHeard) (mi_L mi_X9_takeHeard) (mi_R mi_X9_takeHeard) ∈ gwl ∧ Cond.initialized mi_X9_takeHeard.1.cls ∈ gwl ∧ mi_X9_takeHeard.1.cls ≠ "java/lang/invoke/MethodHandle" ∧ mi_X9_takeHeard.1.cls ≠ "java/lang/invoke/VarHandle" ∧ (parseMethodDescriptor mi_X9_takeHeard.1.desc).map (fun d => d.parameters.length) = some 4 := ⟨gwl_in4 68 rfl rfl, gwl_in1 1 rfl rfl, by decide +kernel, by decide +kernel, by decide +kernel⟩
set_option maxRecDepth 100000 in
theorem vt_X6_find : Cond.instanceMethod mi_X6_find.1 ∈ gwl ∧ Cond.selects mi_X6_find.1.cls mi_X6_find.1 mi_X6_find.1 ∈ gwl := ⟨gwl_in4 82 rfl rfl, gwl_in4 83 rfl rfl⟩
set_option maxRecDepth 100000 in
theorem cd_X6_find : Cond.code mi_X6_find.1 (mi_C mi_X6_find) (mi_L mi_X6_find) (mi_R mi_X6_find) ∈ gwl ∧ Cond.initialized mi_X6_find.1.cls ∈ gwl ∧ mi_X6_find.1.cls ≠ "java/lang/invoke/MethodHandle" ∧ mi_X6_find.1.cls ≠ "java/lang/invoke/VarHandle" ∧ (parseMethodDescriptor mi_X6_find.1.desc).map (fun d => d.parameters.length) = some 3 := ⟨gwl_in4 84 rfl rfl, gwl_in1 8 rfl rfl, by decide +kernel, by decide +kernel, by decide +kernel⟩
set_option maxRecDepth 100000 in
theorem vt_X6_answer : Cond.instanceMethod mi_X6_answer.1 ∈ gwl ∧ Cond.selects mi_X6_answer.1.cls mi_X6_answer.1 mi_X6_answer.1 ∈ gwl := ⟨gwl_in4 107 rfl rfl, gwl_in4 108 rfl rfl⟩
set_option maxRecDepth 100000 in
theorem cd_X6_answer : Cond.code mi_X6_answer.1 (mi_C mi_X6_answer) (mi_L mi_X6_answer) (mi_R mi_X6_answer) ∈ gwl ∧ Cond.initialized mi_X6_answer.1.cls ∈ gwl ∧ mi_X6_answer.1.cls ≠ "java/lang/invoke/MethodHandle" ∧ mi_X6_answer.1.cls ≠ "java/lang/invoke/VarHandle" ∧ (parseMethodDescriptor mi_X6_answer.1.desc).map (fun d => d.parameters.length) = some 1 := ⟨gwl_in4 109 rfl rfl, gwl_in1 8 rfl rfl, by decide +kernel, by decide +kernel, by decide +kernel⟩
set_option maxRecDepth 100000 in
theorem st_X9_isPlace : Cond.static mi_X9_isPlace.1 ∈ gwl := gwl_in4 119 rfl rfl
set_option maxRecDepth 100000 in
theorem cd_X9_isPlace : Cond.code mi_X9_isPlace.1 (mi_C mi_X9_isPlace) (mi_L mi_X9_isPlace) (mi_R mi_X9_isPlace) ∈ gwl ∧ Cond.initialized mi_X9_isPlace.1.cls ∈ gwl ∧ mi_X9_isPlace.1.cls ≠ "java/lang/invoke/MethodHandle" ∧ mi_X9_isPlace.1.cls ≠ "java/lang/invoke/VarHandle" ∧ (parseMethodDescriptor mi_X9_isPlace.1.desc).map (fun d => d.parameters.length) = some 1 := ⟨gwl_in4 120 rfl rfl, gwl_in1 1 rfl rfl, by decide +kernel, by decide +kernel, by decide +kernel⟩
set_option maxRecDepth 100000 in
theorem vt_X3_addBoat : Cond.instanceMethod mi_X3_addBoat.1 ∈ gwl ∧ Cond.selects mi_X3_addBoat.1.cls mi_X3_addBoat.1 mi_X3_addBoat.1 ∈ gwl := ⟨gwl_in4 122 rfl rfl, gwl_in4 123 rfl rfl⟩
set_option maxRecDepth 100000 in
theorem cd_X3_addBoat : Cond.code mi_X3_addBoat.1 (mi_C mi_X3_addBoat) (mi_L mi_X3_addBoat) (mi_R mi_X3_addBoat) ∈ gwl ∧ Cond.initialized mi_X3_addBoat.1.cls ∈ gwl ∧ mi_X3_addBoat.1.cls ≠ "java/lang/invoke/MethodHandle" ∧ mi_X3_addBoat.1.cls ≠ "java/lang/invoke/VarHandle" ∧ (parseMethodDescriptor mi_X3_addBoat.1.desc).map (fun d => d.parameters.length) = some 2 := ⟨gwl_in4 124 rfl rfl, gwl_in1 9 rfl rfl, by decide +kernel, by decide +kernel, by decide +kernel⟩
set_option maxRecDepth 100000 in
theorem vt_X3_bendsAt : Cond.instanceMethod mi_X3_bendsAt.1 ∈ gwl ∧ Cond.selects mi_X3_bendsAt.1.cls mi_X3_bendsAt.1 mi_X3_bendsAt.1 ∈ gwl := ⟨gwl_in4 130 rfl rfl, gwl_in4 131 rfl rfl⟩
set_option maxRecDepth 100000 in
theorem cd_X3_bendsAt : Cond.code mi_X3_bendsAt.1 (mi_C mi_X3_bendsAt) (mi_L mi_X3_bendsAt) (mi_R mi_X3_bendsAt) ∈ gwl ∧ Cond.initialized mi_X3_bendsAt.1.cls ∈ gwl ∧ mi_X3_bendsAt.1.cls ≠ "java/lang/invoke/MethodHandle" ∧ mi_X3_bendsAt.1.cls ≠ "java/lang/invoke/VarHandle" ∧ (parseMethodDescriptor mi_X3_bendsAt.1.desc).map (fun d => d.parameters.length) = some 1 := ⟨gwl_in4 132 rfl rfl, gwl_in1 9 rfl rfl, by decide +kernel, by decide +kernel, by decide +kernel⟩
set_option maxRecDepth 100000 in
theorem vt_X3_addBend : Cond.instanceMethod mi_X3_addBend.1 ∈ gwl ∧ Cond.selects mi_X3_addBend.1.cls mi_X3_addBend.1 mi_X3_addBend.1 ∈ gwl := ⟨gwl_in4 134 rfl rfl, gwl_in4 135 rfl rfl⟩
set_option maxRecDepth 100000 in
theorem cd_X3_addBend : Cond.code mi_X3_addBend.1 (mi_C mi_X3_addBend) (mi_L mi_X3_addBend) (mi_R mi_X3_addBend) ∈ gwl ∧ Cond.initialized mi_X3_addBend.1.cls ∈ gwl ∧ mi_X3_addBend.1.cls ≠ "java/lang/invoke/MethodHandle" ∧ mi_X3_addBend.1.cls ≠ "java/lang/invoke/VarHandle" ∧ (parseMethodDescriptor mi_X3_addBend.1.desc).map (fun d => d.parameters.length) = some 2 := ⟨gwl_in4 136 rfl rfl, gwl_in1 9 rfl rfl, by decide +kernel, by decide +kernel, by decide +kernel⟩
set_option maxRecDepth 100000 in
theorem vt_X3_hasBoat : Cond.instanceMethod mi_X3_hasBoat.1 ∈ gwl ∧ Cond.selects mi_X3_hasBoat.1.cls mi_X3_hasBoat.1 mi_X3_hasBoat.1 ∈ gwl := ⟨gwl_in4 156 rfl rfl, gwl_in4 157 rfl rfl⟩
set_option maxRecDepth 100000 in
theorem cd_X3_hasBoat : Cond.code mi_X3_hasBoat.1 (mi_C mi_X3_hasBoat) (mi_L mi_X3_hasBoat) (mi_R mi_X3_hasBoat) ∈ gwl ∧ Cond.initialized mi_X3_hasBoat.1.cls ∈ gwl ∧ mi_X3_hasBoat.1.cls ≠ "java/lang/invoke/MethodHandle" ∧ mi_X3_hasBoat.1.cls ≠ "java/lang/invoke/VarHandle" ∧ (parseMethodDescriptor mi_X3_hasBoat.1.desc).map (fun d => d.parameters.length) = some 1 := ⟨gwl_in4 158 rfl rfl, gwl_in1 9 rfl rfl, by decide +kernel, by decide +kernel, by decide +kernel⟩
set_option maxRecDepth 100000 in
theorem vt_X3_walk : Cond.instanceMethod mi_X3_walk.1 ∈ gwl ∧ Cond.selects mi_X3_walk.1.cls mi_X3_walk.1 mi_X3_walk.1 ∈ gwl := ⟨gwl_in4 169 rfl rfl, gwl_in4 170 rfl rfl⟩
set_option maxRecDepth 100000 in
theorem cd_X3_walk : Cond.code mi_X3_walk.1 (mi_C mi_X3_walk) (mi_L mi_X3_walk) (mi_R mi_X3_walk) ∈ gwl ∧ Cond.initialized mi_X3_walk.1.cls ∈ gwl ∧ mi_X3_walk.1.cls ≠ "java/lang/invoke/MethodHandle" ∧ mi_X3_walk.1.cls ≠ "java/lang/invoke/VarHandle" ∧ (parseMethodDescriptor mi_X3_walk.1.desc).map (fun d => d.parameters.length) = some 2 := ⟨gwl_in4 171 rfl rfl, gwl_in1 9 rfl rfl, by decide +kernel, by decide +kernel, by decide +kernel⟩
set_option maxRecDepth 100000 in
theorem vt_X0_restore : Cond.instanceMethod mi_X0_restore.1 ∈ gwl ∧ Cond.selects mi_X0_restore.1.cls mi_X0_restore.1 mi_X0_restore.1 ∈ gwl := ⟨gwl_in4 178 rfl rfl, gwl_in4 179 rfl rfl⟩
set_option maxRecDepth 100000 in
theorem cd_X0_restore : Cond.code mi_X0_restore.1 (mi_C mi_X0_restore) (mi_L mi_X0_restore) (mi_R mi_X0_restore) ∈ gwl ∧ Cond.initialized mi_X0_restore.1.cls ∈ gwl ∧ mi_X0_restore.1.cls ≠ "java/lang/invoke/MethodHandle" ∧ mi_X0_restore.1.cls ≠ "java/lang/invoke/VarHandle" ∧ (parseMethodDescriptor mi_X0_restore.1.desc).map (fun d => d.parameters.length) = some 2 := ⟨gwl_in4 180 rfl rfl, gwl_in1 4 rfl rfl, by decide +kernel, by decide +kernel, by decide +kernel⟩
set_option maxRecDepth 100000 in
theorem vt_X5_renew : Cond.instanceMethod mi_X5_renew.1 ∈ gwl ∧ Cond.selects mi_X5_renew.1.cls mi_X5_renew.1 mi_X5_renew.1 ∈ gwl := ⟨gwl_in4 186 rfl rfl, gwl_in4 187 rfl rfl⟩
set_option maxRecDepth 100000 in
theorem cd_X5_renew : Cond.code mi_X5_renew.1 (mi_C mi_X5_renew) (mi_L mi_X5_renew) (mi_R mi_X5_renew) ∈ gwl ∧ Cond.initialized mi_X5_renew.1.cls ∈ gwl ∧ mi_X5_renew.1.cls ≠ "java/lang/invoke/MethodHandle" ∧ mi_X5_renew.1.cls ≠ "java/lang/invoke/VarHandle" ∧ (parseMethodDescriptor mi_X5_renew.1.desc).map (fun d => d.parameters.length) = some 3 := ⟨gwl_in4 188 rfl rfl, gwl_in1 10 rfl rfl, by decide +kernel, by decide +kernel, by decide +kernel⟩
set_option maxRecDepth 100000 in
theorem vt_X5_hasCell : Cond.instanceMethod mi_X5_hasCell.1 ∈ gwl ∧ Cond.selects mi_X5_hasCell.1.cls mi_X5_hasCell.1 mi_X5_hasCell.1 ∈ gwl := ⟨gwl_in4 74 rfl rfl, gwl_in4 75 rfl rfl⟩
set_option maxRecDepth 100000 in
theorem cd_X5_hasCell : Cond.code mi_X5_hasCell.1 (mi_C mi_X5_hasCell) (mi_L mi_X5_hasCell) (mi_R mi_X5_hasCell) ∈ gwl ∧ Cond.initialized mi_X5_hasCell.1.cls ∈ gwl ∧ mi_X5_hasCell.1.cls ≠ "java/lang/invoke/MethodHandle" ∧ mi_X5_hasCell.1.cls ≠ "java/lang/invoke/VarHandle" ∧ (parseMethodDescriptor mi_X5_hasCell.1.desc).map (fun d => d.parameters.length) = some 2 := ⟨gwl_in4 76 rfl rfl, gwl_in1 10 rfl rfl, by decide +kernel, by decide +kernel, by decide +kernel⟩
set_option maxRecDepth 100000 in
theorem vt_X5_put : Cond.instanceMethod mi_X5_put.1 ∈ gwl ∧ Cond.selects mi_X5_put.1.cls mi_X5_put.1 mi_X5_put.1 ∈ gwl := ⟨gwl_in4 196 rfl rfl, gwl_in4 197 rfl rfl⟩
set_option maxRecDepth 100000 in
theorem cd_X5_put : Cond.code mi_X5_put.1 (mi_C mi_X5_put) (mi_L mi_X5_put) (mi_R mi_X5_put) ∈ gwl ∧ Cond.initialized mi_X5_put.1.cls ∈ gwl ∧ mi_X5_put.1.cls ≠ "java/lang/invoke/MethodHandle" ∧ mi_X5_put.1.cls ≠ "java/lang/invoke/VarHandle" ∧ (parseMethodDescriptor mi_X5_put.1.desc).map (fun d => d.parameters.length) = some 3 := ⟨gwl_in4 198 rfl rfl, gwl_in1 10 rfl rfl, by decide +kernel, by decide +kernel, by decide +kernel⟩
set_option maxRecDepth 100000 in
theorem vt_X9_scanOne : Cond.instanceMethod mi_X9_scanOne.1 ∈ gwl ∧ Cond.selects mi_X9_scanOne.1.cls mi_X9_scanOne.1 mi_X9_scanOne.1 ∈ gwl := ⟨gwl_in4 205 rfl rfl, gwl_in0 31 rfl rfl⟩
set_option maxRecDepth 100000 in
theorem cd_X9_scanOne : Cond.code mi_X9_scanOne.1 (mi_C mi_X9_scanOne) (mi_L mi_X9_scanOne) (mi_R mi_X9_scanOne) ∈ gwl ∧ Cond.initialized mi_X9_scanOne.1.cls ∈ gwl ∧ mi_X9_scanOne.1.cls ≠ "java/lang/invoke/MethodHandle" ∧ mi_X9_scanOne.1.cls ≠ "java/lang/invoke/VarHandle" ∧ (parseMethodDescriptor mi_X9_scanOne.1.desc).map (fun d => d.parameters.length) = some 2 := ⟨gwl_in4 206 rfl rfl, gwl_in1 1 rfl rfl, by decide +kernel, by decide +kernel, by decide +kernel⟩
set_option maxRecDepth 100000 in
theorem vt_X8_cracked : Cond.instanceMethod mi_X8_cracked.1 ∈ gwl ∧ Cond.selects mi_X8_cracked.1.cls mi_X8_cracked.1 mi_X8_cracked.1 ∈ gwl := ⟨gwl_in4 212 rfl rfl, gwl_in4 213 rfl rfl⟩
set_option maxRecDepth 100000 in
theorem cd_X8_cracked : Cond.code mi_X8_cracked.1 (mi_C mi_X8_cracked) (mi_L mi_X8_cracked) (mi_R mi_X8_cracked) ∈ gwl ∧ Cond.initialized mi_X8_cracked.1.cls ∈ gwl ∧ mi_X8_cracked.1.cls ≠ "java/lang/invoke/MethodHandle" ∧ mi_X8_cracked.1.cls ≠ "java/lang/invoke/VarHandle" ∧ (parseMethodDescriptor mi_X8_cracked.1.desc).map (fun d => d.parameters.length) = some 0 := ⟨gwl_in4 214 rfl rfl, gwl_in1 3 rfl rfl, by decide +kernel, by decide +kernel, by decide +kernel⟩
set_option maxRecDepth 100000 in
theorem vt_X6_forget : Cond.instanceMethod mi_X6_forget.1 ∈ gwl ∧ Cond.selects mi_X6_forget.1.cls mi_X6_forget.1 mi_X6_forget.1 ∈ gwl := ⟨gwl_in4 70 rfl rfl, gwl_in4 71 rfl rfl⟩
set_option maxRecDepth 100000 in
theorem cd_X6_forget : Cond.code mi_X6_forget.1 (mi_C mi_X6_forget) (mi_L mi_X6_forget) (mi_R mi_X6_forget) ∈ gwl ∧ Cond.initialized mi_X6_forget.1.cls ∈ gwl ∧ mi_X6_forget.1.cls ≠ "java/lang/invoke/MethodHandle" ∧ mi_X6_forget.1.cls ≠ "java/lang/invoke/VarHandle" ∧ (parseMethodDescriptor mi_X6_forget.1.desc).map (fun d => d.parameters.length) = some 0 := ⟨gwl_in4 72 rfl rfl, gwl_in1 8 rfl rfl, by decide +kernel, by decide +kernel, by decide +kernel⟩
set_option maxRecDepth 100000 in
theorem vt_X6_addBeat : Cond.instanceMethod mi_X6_addBeat.1 ∈ gwl ∧ Cond.selects mi_X6_addBeat.1.cls mi_X6_addBeat.1 mi_X6_addBeat.1 ∈ gwl := ⟨gwl_in4 78 rfl rfl, gwl_in4 79 rfl rfl⟩
set_option maxRecDepth 100000 in
theorem cd_X6_addBeat : Cond.code mi_X6_addBeat.1 (mi_C mi_X6_addBeat) (mi_L mi_X6_addBeat) (mi_R mi_X6_addBeat) ∈ gwl ∧ Cond.initialized mi_X6_addBeat.1.cls ∈ gwl ∧ mi_X6_addBeat.1.cls ≠ "java/lang/invoke/MethodHandle" ∧ mi_X6_addBeat.1.cls ≠ "java/lang/invoke/VarHandle" ∧ (parseMethodDescriptor mi_X6_addBeat.1.desc).map (fun d => d.parameters.length) = some 2 := ⟨gwl_in4 80 rfl rfl, gwl_in1 8 rfl rfl, by decide +kernel, by decide +kernel, by decide +kernel⟩
set_option maxRecDepth 100000 in
theorem st_X10_in : Cond.static mi_X10_in.1 ∈ gwl := gwl_in5 158 rfl rfl
set_option maxRecDepth 100000 in
theorem cd_X10_in : Cond.code mi_X10_in.1 (mi_C mi_X10_in) (mi_L mi_X10_in) (mi_R mi_X10_in) ∈ gwl ∧ Cond.initialized mi_X10_in.1.cls ∈ gwl ∧ mi_X10_in.1.cls ≠ "java/lang/invoke/MethodHandle" ∧ mi_X10_in.1.cls ≠ "java/lang/invoke/VarHandle" ∧ (parseMethodDescriptor mi_X10_in.1.desc).map (fun d => d.parameters.length) = some 3 := ⟨gwl_in5 159 rfl rfl, gwl_in1 11 rfl rfl, by decide +kernel, by decide +kernel, by decide +kernel⟩
set_option maxRecDepth 100000 in
theorem vt_X10_keeps : Cond.instanceMethod mi_X10_keeps.1 ∈ gwl ∧ Cond.selects mi_X10_keeps.1.cls mi_X10_keeps.1 mi_X10_keeps.1 ∈ gwl := ⟨gwl_in5 162 rfl rfl, gwl_in0 32 rfl rfl⟩
set_option maxRecDepth 100000 in
theorem cd_X10_keeps : Cond.code mi_X10_keeps.1 (mi_C mi_X10_keeps) (mi_L mi_X10_keeps) (mi_R mi_X10_keeps) ∈ gwl ∧ Cond.initialized mi_X10_keeps.1.cls ∈ gwl ∧ mi_X10_keeps.1.cls ≠ "java/lang/invoke/MethodHandle" ∧ mi_X10_keeps.1.cls ≠ "java/lang/invoke/VarHandle" ∧ (parseMethodDescriptor mi_X10_keeps.1.desc).map (fun d => d.parameters.length) = some 0 := ⟨gwl_in5 163 rfl rfl, gwl_in1 11 rfl rfl, by decide +kernel, by decide +kernel, by decide +kernel⟩
set_option maxRecDepth 100000 in
theorem vt_X10_drawn : Cond.instanceMethod mi_X10_drawn.1 ∈ gwl ∧ Cond.selects mi_X10_drawn.1.cls mi_X10_drawn.1 mi_X10_drawn.1 ∈ gwl := ⟨gwl_in5 185 rfl rfl, gwl_in0 33 rfl rfl⟩
set_option maxRecDepth 100000 in
theorem cd_X10_drawn : Cond.code mi_X10_drawn.1 (mi_C mi_X10_drawn) (mi_L mi_X10_drawn) (mi_R mi_X10_drawn) ∈ gwl ∧ Cond.initialized mi_X10_drawn.1.cls ∈ gwl ∧ mi_X10_drawn.1.cls ≠ "java/lang/invoke/MethodHandle" ∧ mi_X10_drawn.1.cls ≠ "java/lang/invoke/VarHandle" ∧ (parseMethodDescriptor mi_X10_drawn.1.desc).map (fun d => d.parameters.length) = some 1 := ⟨gwl_in5 186 rfl rfl, gwl_in1 11 rfl rfl, by decide +kernel, by decide +kernel, by decide +kernel⟩
set_option maxRecDepth 100000 in
theorem st_X10_down : Cond.static mi_X10_down.1 ∈ gwl := gwl_in5 204 rfl rfl
set_option maxRecDepth 100000 in
theorem cd_X10_down : Cond.code mi_X10_down.1 (mi_C mi_X10_down) (mi_L mi_X10_down) (mi_R mi_X10_down) ∈ gwl ∧ Cond.initialized mi_X10_down.1.cls ∈ gwl ∧ mi_X10_down.1.cls ≠ "java/lang/invoke/MethodHandle" ∧ mi_X10_down.1.cls ≠ "java/lang/invoke/VarHandle" ∧ (parseMethodDescriptor mi_X10_down.1.desc).map (fun d => d.parameters.length) = some 2 := ⟨gwl_in5 205 rfl rfl, gwl_in1 11 rfl rfl, by decide +kernel, by decide +kernel, by decide +kernel⟩
set_option maxRecDepth 100000 in
theorem vt_X10_off : Cond.instanceMethod mi_X10_off.1 ∈ gwl ∧ Cond.selects mi_X10_off.1.cls mi_X10_off.1 mi_X10_off.1 ∈ gwl := ⟨gwl_in5 201 rfl rfl, gwl_in0 36 rfl rfl⟩
set_option maxRecDepth 100000 in
theorem cd_X10_off : Cond.code mi_X10_off.1 (mi_C mi_X10_off) (mi_L mi_X10_off) (mi_R mi_X10_off) ∈ gwl ∧ Cond.initialized mi_X10_off.1.cls ∈ gwl ∧ mi_X10_off.1.cls ≠ "java/lang/invoke/MethodHandle" ∧ mi_X10_off.1.cls ≠ "java/lang/invoke/VarHandle" ∧ (parseMethodDescriptor mi_X10_off.1.desc).map (fun d => d.parameters.length) = some 2 := ⟨gwl_in5 202 rfl rfl, gwl_in1 11 rfl rfl, by decide +kernel, by decide +kernel, by decide +kernel⟩
set_option maxRecDepth 100000 in
theorem st_X10_size : Cond.static mi_X10_size.1 ∈ gwl := gwl_in5 207 rfl rfl
set_option maxRecDepth 100000 in
theorem cd_X10_size : Cond.code mi_X10_size.1 (mi_C mi_X10_size) (mi_L mi_X10_size) (mi_R mi_X10_size) ∈ gwl ∧ Cond.initialized mi_X10_size.1.cls ∈ gwl ∧ mi_X10_size.1.cls ≠ "java/lang/invoke/MethodHandle" ∧ mi_X10_size.1.cls ≠ "java/lang/invoke/VarHandle" ∧ (parseMethodDescriptor mi_X10_size.1.desc).map (fun d => d.parameters.length) = some 1 := ⟨gwl_in5 208 rfl rfl, gwl_in1 11 rfl rfl, by decide +kernel, by decide +kernel, by decide +kernel⟩
set_option maxRecDepth 100000 in
theorem vt_X10_strayOf : Cond.instanceMethod mi_X10_strayOf.1 ∈ gwl ∧ Cond.selects mi_X10_strayOf.1.cls mi_X10_strayOf.1 mi_X10_strayOf.1 ∈ gwl := ⟨gwl_in5 197 rfl rfl, gwl_in0 35 rfl rfl⟩
set_option maxRecDepth 100000 in
theorem cd_X10_strayOf : Cond.code mi_X10_strayOf.1 (mi_C mi_X10_strayOf) (mi_L mi_X10_strayOf) (mi_R mi_X10_strayOf) ∈ gwl ∧ Cond.initialized mi_X10_strayOf.1.cls ∈ gwl ∧ mi_X10_strayOf.1.cls ≠ "java/lang/invoke/MethodHandle" ∧ mi_X10_strayOf.1.cls ≠ "java/lang/invoke/VarHandle" ∧ (parseMethodDescriptor mi_X10_strayOf.1.desc).map (fun d => d.parameters.length) = some 2 := ⟨gwl_in5 198 rfl rfl, gwl_in1 11 rfl rfl, by decide +kernel, by decide +kernel, by decide +kernel⟩
set_option maxRecDepth 100000 in
theorem vt_X10_goes : Cond.instanceMethod mi_X10_goes.1 ∈ gwl ∧ Cond.selects mi_X10_goes.1.cls mi_X10_goes.1 mi_X10_goes.1 ∈ gwl := ⟨gwl_in5 193 rfl rfl, gwl_in0 34 rfl rfl⟩
set_option maxRecDepth 100000 in
theorem cd_X10_goes : Cond.code mi_X10_goes.1 (mi_C mi_X10_goes) (mi_L mi_X10_goes) (mi_R mi_X10_goes) ∈ gwl ∧ Cond.initialized mi_X10_goes.1.cls ∈ gwl ∧ mi_X10_goes.1.cls ≠ "java/lang/invoke/MethodHandle" ∧ mi_X10_goes.1.cls ≠ "java/lang/invoke/VarHandle" ∧ (parseMethodDescriptor mi_X10_goes.1.desc).map (fun d => d.parameters.length) = some 1 := ⟨gwl_in5 194 rfl rfl, gwl_in1 11 rfl rfl, by decide +kernel, by decide +kernel, by decide +kernel⟩
set_option maxRecDepth 100000 in
theorem vt_X10_isWhistle : Cond.instanceMethod mi_X10_isWhistle.1 ∈ gwl ∧ Cond.selects mi_X10_isWhistle.1.cls mi_X10_isWhistle.1 mi_X10_isWhistle.1 ∈ gwl := ⟨gwl_in5 221 rfl rfl, gwl_in0 37 rfl rfl⟩
set_option maxRecDepth 100000 in
theorem cd_X10_isWhistle : Cond.code mi_X10_isWhistle.1 (mi_C mi_X10_isWhistle) (mi_L mi_X10_isWhistle) (mi_R mi_X10_isWhistle) ∈ gwl ∧ Cond.initialized mi_X10_isWhistle.1.cls ∈ gwl ∧ mi_X10_isWhistle.1.cls ≠ "java/lang/invoke/MethodHandle" ∧ mi_X10_isWhistle.1.cls ≠ "java/lang/invoke/VarHandle" ∧ (parseMethodDescriptor mi_X10_isWhistle.1.desc).map (fun d => d.parameters.length) = some 1 := ⟨gwl_in5 222 rfl rfl, gwl_in1 11 rfl rfl, by decide +kernel, by decide +kernel, by decide +kernel⟩
set_option maxRecDepth 100000 in
theorem vt_X10_fails : Cond.instanceMethod mi_X10_fails.1 ∈ gwl ∧ Cond.selects mi_X10_fails.1.cls mi_X10_fails.1 mi_X10_fails.1 ∈ gwl := ⟨gwl_in6 47 rfl rfl, gwl_in0 41 rfl rfl⟩
set_option maxRecDepth 100000 in
theorem cd_X10_fails : Cond.code mi_X10_fails.1 (mi_C mi_X10_fails) (mi_L mi_X10_fails) (mi_R mi_X10_fails) ∈ gwl ∧ Cond.initialized mi_X10_fails.1.cls ∈ gwl ∧ mi_X10_fails.1.cls ≠ "java/lang/invoke/MethodHandle" ∧ mi_X10_fails.1.cls ≠ "java/lang/invoke/VarHandle" ∧ (parseMethodDescriptor mi_X10_fails.1.desc).map (fun d => d.parameters.length) = some 2 := ⟨gwl_in6 48 rfl rfl, gwl_in1 11 rfl rfl, by decide +kernel, by decide +kernel, by decide +kernel⟩
set_option maxRecDepth 100000 in
theorem vt_X10_look : Cond.instanceMethod mi_X10_look.1 ∈ gwl ∧ Cond.selects mi_X10_look.1.cls mi_X10_look.1 mi_X10_look.1 ∈ gwl := ⟨gwl_in6 37 rfl rfl, gwl_in0 39 rfl rfl⟩
set_option maxRecDepth 100000 in
theorem cd_X10_look : Cond.code mi_X10_look.1 (mi_C mi_X10_look) (mi_L mi_X10_look) (mi_R mi_X10_look) ∈ gwl ∧ Cond.initialized mi_X10_look.1.cls ∈ gwl ∧ mi_X10_look.1.cls ≠ "java/lang/invoke/MethodHandle" ∧ mi_X10_look.1.cls ≠ "java/lang/invoke/VarHandle" ∧ (parseMethodDescriptor mi_X10_look.1.desc).map (fun d => d.parameters.length) = some 1 := ⟨gwl_in6 38 rfl rfl, gwl_in1 11 rfl rfl, by decide +kernel, by decide +kernel, by decide +kernel⟩
set_option maxRecDepth 100000 in
theorem st_X10_bits : Cond.static mi_X10_bits.1 ∈ gwl := gwl_in6 50 rfl rfl
set_option maxRecDepth 100000 in
theorem cd_X10_bits : Cond.code mi_X10_bits.1 (mi_C mi_X10_bits) (mi_L mi_X10_bits) (mi_R mi_X10_bits) ∈ gwl ∧ Cond.initialized mi_X10_bits.1.cls ∈ gwl ∧ mi_X10_bits.1.cls ≠ "java/lang/invoke/MethodHandle" ∧ mi_X10_bits.1.cls ≠ "java/lang/invoke/VarHandle" ∧ (parseMethodDescriptor mi_X10_bits.1.desc).map (fun d => d.parameters.length) = some 1 := ⟨gwl_in6 51 rfl rfl, gwl_in1 11 rfl rfl, by decide +kernel, by decide +kernel, by decide +kernel⟩
set_option maxRecDepth 100000 in
theorem vt_X10_readChord : Cond.instanceMethod mi_X10_readChord.1 ∈ gwl ∧ Cond.selects mi_X10_readChord.1.cls mi_X10_readChord.1 mi_X10_readChord.1 ∈ gwl := ⟨gwl_in6 43 rfl rfl, gwl_in0 40 rfl rfl⟩
set_option maxRecDepth 100000 in
theorem cd_X10_readChord : Cond.code mi_X10_readChord.1 (mi_C mi_X10_readChord) (mi_L mi_X10_readChord) (mi_R mi_X10_readChord) ∈ gwl ∧ Cond.initialized mi_X10_readChord.1.cls ∈ gwl ∧ mi_X10_readChord.1.cls ≠ "java/lang/invoke/MethodHandle" ∧ mi_X10_readChord.1.cls ≠ "java/lang/invoke/VarHandle" ∧ (parseMethodDescriptor mi_X10_readChord.1.desc).map (fun d => d.parameters.length) = some 0 := ⟨gwl_in6 44 rfl rfl, gwl_in1 11 rfl rfl, by decide +kernel, by decide +kernel, by decide +kernel⟩
set_option maxRecDepth 100000 in
theorem vt_X10_wants : Cond.instanceMethod mi_X10_wants.1 ∈ gwl ∧ Cond.selects mi_X10_wants.1.cls mi_X10_wants.1 mi_X10_wants.1 ∈ gwl := ⟨gwl_in6 56 rfl rfl, gwl_in0 42 rfl rfl⟩
set_option maxRecDepth 100000 in
theorem cd_X10_wants : Cond.code mi_X10_wants.1 (mi_C mi_X10_wants) (mi_L mi_X10_wants) (mi_R mi_X10_wants) ∈ gwl ∧ Cond.initialized mi_X10_wants.1.cls ∈ gwl ∧ mi_X10_wants.1.cls ≠ "java/lang/invoke/MethodHandle" ∧ mi_X10_wants.1.cls ≠ "java/lang/invoke/VarHandle" ∧ (parseMethodDescriptor mi_X10_wants.1.desc).map (fun d => d.parameters.length) = some 2 := ⟨gwl_in6 57 rfl rfl, gwl_in1 11 rfl rfl, by decide +kernel, by decide +kernel, by decide +kernel⟩
set_option maxRecDepth 100000 in
theorem vt_X10_isSign : Cond.instanceMethod mi_X10_isSign.1 ∈ gwl ∧ Cond.selects mi_X10_isSign.1.cls mi_X10_isSign.1 mi_X10_isSign.1 ∈ gwl := ⟨gwl_in6 64 rfl rfl, gwl_in0 44 rfl rfl⟩
set_option maxRecDepth 100000 in
theorem cd_X10_isSign : Cond.code mi_X10_isSign.1 (mi_C mi_X10_isSign) (mi_L mi_X10_isSign) (mi_R mi_X10_isSign) ∈ gwl ∧ Cond.initialized mi_X10_isSign.1.cls ∈ gwl ∧ mi_X10_isSign.1.cls ≠ "java/lang/invoke/MethodHandle" ∧ mi_X10_isSign.1.cls ≠ "java/lang/invoke/VarHandle" ∧ (parseMethodDescriptor mi_X10_isSign.1.desc).map (fun d => d.parameters.length) = some 1 := ⟨gwl_in6 65 rfl rfl, gwl_in1 11 rfl rfl, by decide +kernel, by decide +kernel, by decide +kernel⟩
set_option maxRecDepth 100000 in
theorem vt_X10_beatRead : Cond.instanceMethod mi_X10_beatRead.1 ∈ gwl ∧ Cond.selects mi_X10_beatRead.1.cls mi_X10_beatRead.1 mi_X10_beatRead.1 ∈ gwl := ⟨gwl_in6 68 rfl rfl, gwl_in0 45 rfl rfl⟩
set_option maxRecDepth 100000 in
theorem cd_X10_beatRead : Cond.code mi_X10_beatRead.1 (mi_C mi_X10_beatRead) (mi_L mi_X10_beatRead) (mi_R mi_X10_beatRead) ∈ gwl ∧ Cond.initialized mi_X10_beatRead.1.cls ∈ gwl ∧ mi_X10_beatRead.1.cls ≠ "java/lang/invoke/MethodHandle" ∧ mi_X10_beatRead.1.cls ≠ "java/lang/invoke/VarHandle" ∧ (parseMethodDescriptor mi_X10_beatRead.1.desc).map (fun d => d.parameters.length) = some 1 := ⟨gwl_in6 69 rfl rfl, gwl_in1 11 rfl rfl, by decide +kernel, by decide +kernel, by decide +kernel⟩
set_option maxRecDepth 100000 in
theorem vt_X10_next : Cond.instanceMethod mi_X10_next.1 ∈ gwl ∧ Cond.selects mi_X10_next.1.cls mi_X10_next.1 mi_X10_next.1 ∈ gwl := ⟨gwl_in6 33 rfl rfl, gwl_in0 38 rfl rfl⟩
set_option maxRecDepth 100000 in
theorem cd_X10_next : Cond.code mi_X10_next.1 (mi_C mi_X10_next) (mi_L mi_X10_next) (mi_R mi_X10_next) ∈ gwl ∧ Cond.initialized mi_X10_next.1.cls ∈ gwl ∧ mi_X10_next.1.cls ≠ "java/lang/invoke/MethodHandle" ∧ mi_X10_next.1.cls ≠ "java/lang/invoke/VarHandle" ∧ (parseMethodDescriptor mi_X10_next.1.desc).map (fun d => d.parameters.length) = some 0 := ⟨gwl_in6 34 rfl rfl, gwl_in1 11 rfl rfl, by decide +kernel, by decide +kernel, by decide +kernel⟩
set_option maxRecDepth 100000 in
theorem vt_X10_closes : Cond.instanceMethod mi_X10_closes.1 ∈ gwl ∧ Cond.selects mi_X10_closes.1.cls mi_X10_closes.1 mi_X10_closes.1 ∈ gwl := ⟨gwl_in6 72 rfl rfl, gwl_in0 46 rfl rfl⟩
set_option maxRecDepth 100000 in
theorem cd_X10_closes : Cond.code mi_X10_closes.1 (mi_C mi_X10_closes) (mi_L mi_X10_closes) (mi_R mi_X10_closes) ∈ gwl ∧ Cond.initialized mi_X10_closes.1.cls ∈ gwl ∧ mi_X10_closes.1.cls ≠ "java/lang/invoke/MethodHandle" ∧ mi_X10_closes.1.cls ≠ "java/lang/invoke/VarHandle" ∧ (parseMethodDescriptor mi_X10_closes.1.desc).map (fun d => d.parameters.length) = some 0 := ⟨gwl_in6 73 rfl rfl, gwl_in1 11 rfl rfl, by decide +kernel, by decide +kernel, by decide +kernel⟩
set_option maxRecDepth 100000 in
theorem vt_X10_readTune : Cond.instanceMethod mi_X10_readTune.1 ∈ gwl ∧ Cond.selects mi_X10_readTune.1.cls mi_X10_readTune.1 mi_X10_readTune.1 ∈ gwl := ⟨gwl_in6 60 rfl rfl, gwl_in0 43 rfl rfl⟩
set_option maxRecDepth 100000 in
theorem cd_X10_readTune : Cond.code mi_X10_readTune.1 (mi_C mi_X10_readTune) (mi_L mi_X10_readTune) (mi_R mi_X10_readTune) ∈ gwl ∧ Cond.initialized mi_X10_readTune.1.cls ∈ gwl ∧ mi_X10_readTune.1.cls ≠ "java/lang/invoke/MethodHandle" ∧ mi_X10_readTune.1.cls ≠ "java/lang/invoke/VarHandle" ∧ (parseMethodDescriptor mi_X10_readTune.1.desc).map (fun d => d.parameters.length) = some 0 := ⟨gwl_in6 61 rfl rfl, gwl_in1 11 rfl rfl, by decide +kernel, by decide +kernel, by decide +kernel⟩
set_option maxRecDepth 100000 in
theorem vt_X10_chordAt : Cond.instanceMethod mi_X10_chordAt.1 ∈ gwl ∧ Cond.selects mi_X10_chordAt.1.cls mi_X10_chordAt.1 mi_X10_chordAt.1 ∈ gwl := ⟨gwl_in6 90 rfl rfl, gwl_in0 48 rfl rfl⟩
set_option maxRecDepth 100000 in
theorem cd_X10_chordAt : Cond.code mi_X10_chordAt.1 (mi_C mi_X10_chordAt) (mi_L mi_X10_chordAt) (mi_R mi_X10_chordAt) ∈ gwl ∧ Cond.initialized mi_X10_chordAt.1.cls ∈ gwl ∧ mi_X10_chordAt.1.cls ≠ "java/lang/invoke/MethodHandle" ∧ mi_X10_chordAt.1.cls ≠ "java/lang/invoke/VarHandle" ∧ (parseMethodDescriptor mi_X10_chordAt.1.desc).map (fun d => d.parameters.length) = some 2 := ⟨gwl_in6 91 rfl rfl, gwl_in1 11 rfl rfl, by decide +kernel, by decide +kernel, by decide +kernel⟩
set_option maxRecDepth 100000 in
theorem vt_X10_isTune : Cond.instanceMethod mi_X10_isTune.1 ∈ gwl ∧ Cond.selects mi_X10_isTune.1.cls mi_X10_isTune.1 mi_X10_isTune.1 ∈ gwl := ⟨gwl_in6 84 rfl rfl, gwl_in0 47 rfl rfl⟩
set_option maxRecDepth 100000 in
theorem cd_X10_isTune : Cond.code mi_X10_isTune.1 (mi_C mi_X10_isTune) (mi_L mi_X10_isTune) (mi_R mi_X10_isTune) ∈ gwl ∧ Cond.initialized mi_X10_isTune.1.cls ∈ gwl ∧ mi_X10_isTune.1.cls ≠ "java/lang/invoke/MethodHandle" ∧ mi_X10_isTune.1.cls ≠ "java/lang/invoke/VarHandle" ∧ (parseMethodDescriptor mi_X10_isTune.1.desc).map (fun d => d.parameters.length) = some 1 := ⟨gwl_in6 85 rfl rfl, gwl_in1 11 rfl rfl, by decide +kernel, by decide +kernel, by decide +kernel⟩
set_option maxRecDepth 100000 in
theorem vt_X10_allOf : Cond.instanceMethod mi_X10_allOf.1 ∈ gwl ∧ Cond.selects mi_X10_allOf.1.cls mi_X10_allOf.1 mi_X10_allOf.1 ∈ gwl := ⟨gwl_in6 94 rfl rfl, gwl_in0 49 rfl rfl⟩
set_option maxRecDepth 100000 in
theorem cd_X10_allOf : Cond.code mi_X10_allOf.1 (mi_C mi_X10_allOf) (mi_L mi_X10_allOf) (mi_R mi_X10_allOf) ∈ gwl ∧ Cond.initialized mi_X10_allOf.1.cls ∈ gwl ∧ mi_X10_allOf.1.cls ≠ "java/lang/invoke/MethodHandle" ∧ mi_X10_allOf.1.cls ≠ "java/lang/invoke/VarHandle" ∧ (parseMethodDescriptor mi_X10_allOf.1.desc).map (fun d => d.parameters.length) = some 1 := ⟨gwl_in6 95 rfl rfl, gwl_in1 11 rfl rfl, by decide +kernel, by decide +kernel, by decide +kernel⟩
set_option maxRecDepth 100000 in
theorem vt_X10_moved : Cond.instanceMethod mi_X10_moved.1 ∈ gwl ∧ Cond.selects mi_X10_moved.1.cls mi_X10_moved.1 mi_X10_moved.1 ∈ gwl := ⟨gwl_in6 116 rfl rfl, gwl_in0 53 rfl rfl⟩
set_option maxRecDepth 100000 in
theorem cd_X10_moved : Cond.code mi_X10_moved.1 (mi_C mi_X10_moved) (mi_L mi_X10_moved) (mi_R mi_X10_moved) ∈ gwl ∧ Cond.initialized mi_X10_moved.1.cls ∈ gwl ∧ mi_X10_moved.1.cls ≠ "java/lang/invoke/MethodHandle" ∧ mi_X10_moved.1.cls ≠ "java/lang/invoke/VarHandle" ∧ (parseMethodDescriptor mi_X10_moved.1.desc).map (fun d => d.parameters.length) = some 2 := ⟨gwl_in6 117 rfl rfl, gwl_in1 11 rfl rfl, by decide +kernel, by decide +kernel, by decide +kernel⟩
set_option maxRecDepth 100000 in
theorem vt_X10_goesAll : Cond.instanceMethod mi_X10_goesAll.1 ∈ gwl ∧ Cond.selects mi_X10_goesAll.1.cls mi_X10_goesAll.1 mi_X10_goesAll.1 ∈ gwl := ⟨gwl_in6 112 rfl rfl, gwl_in0 52 rfl rfl⟩
set_option maxRecDepth 100000 in
theorem cd_X10_goesAll : Cond.code mi_X10_goesAll.1 (mi_C mi_X10_goesAll) (mi_L mi_X10_goesAll) (mi_R mi_X10_goesAll) ∈ gwl ∧ Cond.initialized mi_X10_goesAll.1.cls ∈ gwl ∧ mi_X10_goesAll.1.cls ≠ "java/lang/invoke/MethodHandle" ∧ mi_X10_goesAll.1.cls ≠ "java/lang/invoke/VarHandle" ∧ (parseMethodDescriptor mi_X10_goesAll.1.desc).map (fun d => d.parameters.length) = some 2 := ⟨gwl_in6 113 rfl rfl, gwl_in1 11 rfl rfl, by decide +kernel, by decide +kernel, by decide +kernel⟩
set_option maxRecDepth 100000 in
theorem vt_X10_isIn : Cond.instanceMethod mi_X10_isIn.1 ∈ gwl ∧ Cond.selects mi_X10_isIn.1.cls mi_X10_isIn.1 mi_X10_isIn.1 ∈ gwl := ⟨gwl_in6 104 rfl rfl, gwl_in0 50 rfl rfl⟩
set_option maxRecDepth 100000 in
theorem cd_X10_isIn : Cond.code mi_X10_isIn.1 (mi_C mi_X10_isIn) (mi_L mi_X10_isIn) (mi_R mi_X10_isIn) ∈ gwl ∧ Cond.initialized mi_X10_isIn.1.cls ∈ gwl ∧ mi_X10_isIn.1.cls ≠ "java/lang/invoke/MethodHandle" ∧ mi_X10_isIn.1.cls ≠ "java/lang/invoke/VarHandle" ∧ (parseMethodDescriptor mi_X10_isIn.1.desc).map (fun d => d.parameters.length) = some 2 := ⟨gwl_in6 105 rfl rfl, gwl_in1 11 rfl rfl, by decide +kernel, by decide +kernel, by decide +kernel⟩
set_option maxRecDepth 100000 in
theorem vt_X10_tried : Cond.instanceMethod mi_X10_tried.1 ∈ gwl ∧ Cond.selects mi_X10_tried.1.cls mi_X10_tried.1 mi_X10_tried.1 ∈ gwl := ⟨gwl_in6 108 rfl rfl, gwl_in0 51 rfl rfl⟩
set_option maxRecDepth 100000 in
theorem cd_X10_tried : Cond.code mi_X10_tried.1 (mi_C mi_X10_tried) (mi_L mi_X10_tried) (mi_R mi_X10_tried) ∈ gwl ∧ Cond.initialized mi_X10_tried.1.cls ∈ gwl ∧ mi_X10_tried.1.cls ≠ "java/lang/invoke/MethodHandle" ∧ mi_X10_tried.1.cls ≠ "java/lang/invoke/VarHandle" ∧ (parseMethodDescriptor mi_X10_tried.1.desc).map (fun d => d.parameters.length) = some 2 := ⟨gwl_in6 109 rfl rfl, gwl_in1 11 rfl rfl, by decide +kernel, by decide +kernel, by decide +kernel⟩
set_option maxRecDepth 100000 in
theorem vt_X10_spot : Cond.instanceMethod mi_X10_spot.1 ∈ gwl ∧ Cond.selects mi_X10_spot.1.cls mi_X10_spot.1 mi_X10_spot.1 ∈ gwl := ⟨gwl_in6 146 rfl rfl, gwl_in0 57 rfl rfl⟩
set_option maxRecDepth 100000 in
theorem cd_X10_spot : Cond.code mi_X10_spot.1 (mi_C mi_X10_spot) (mi_L mi_X10_spot) (mi_R mi_X10_spot) ∈ gwl ∧ Cond.initialized mi_X10_spot.1.cls ∈ gwl ∧ mi_X10_spot.1.cls ≠ "java/lang/invoke/MethodHandle" ∧ mi_X10_spot.1.cls ≠ "java/lang/invoke/VarHandle" ∧ (parseMethodDescriptor mi_X10_spot.1.desc).map (fun d => d.parameters.length) = some 3 := ⟨gwl_in6 147 rfl rfl, gwl_in1 11 rfl rfl, by decide +kernel, by decide +kernel, by decide +kernel⟩
set_option maxRecDepth 100000 in
theorem vt_X10_then : Cond.instanceMethod mi_X10_then.1 ∈ gwl ∧ Cond.selects mi_X10_then.1.cls mi_X10_then.1 mi_X10_then.1 ∈ gwl := ⟨gwl_in6 150 rfl rfl, gwl_in0 58 rfl rfl⟩
set_option maxRecDepth 100000 in
theorem cd_X10_then : Cond.code mi_X10_then.1 (mi_C mi_X10_then) (mi_L mi_X10_then) (mi_R mi_X10_then) ∈ gwl ∧ Cond.initialized mi_X10_then.1.cls ∈ gwl ∧ mi_X10_then.1.cls ≠ "java/lang/invoke/MethodHandle" ∧ mi_X10_then.1.cls ≠ "java/lang/invoke/VarHandle" ∧ (parseMethodDescriptor mi_X10_then.1.desc).map (fun d => d.parameters.length) = some 2 := ⟨gwl_in6 151 rfl rfl, gwl_in1 11 rfl rfl, by decide +kernel, by decide +kernel, by decide +kernel⟩
set_option maxRecDepth 100000 in
theorem vt_X10_prepares : Cond.instanceMethod mi_X10_prepares.1 ∈ gwl ∧ Cond.selects mi_X10_prepares.1.cls mi_X10_prepares.1 mi_X10_prepares.1 ∈ gwl := ⟨gwl_in6 138 rfl rfl, gwl_in0 55 rfl rfl⟩
set_option maxRecDepth 100000 in
theorem cd_X10_prepares : Cond.code mi_X10_prepares.1 (mi_C mi_X10_prepares) (mi_L mi_X10_prepares) (mi_R mi_X10_prepares) ∈ gwl ∧ Cond.initialized mi_X10_prepares.1.cls ∈ gwl ∧ mi_X10_prepares.1.cls ≠ "java/lang/invoke/MethodHandle" ∧ mi_X10_prepares.1.cls ≠ "java/lang/invoke/VarHandle" ∧ (parseMethodDescriptor mi_X10_prepares.1.desc).map (fun d => d.parameters.length) = some 1 := ⟨gwl_in6 139 rfl rfl, gwl_in1 11 rfl rfl, by decide +kernel, by decide +kernel, by decide +kernel⟩
set_option maxRecDepth 100000 in
theorem vt_X10_meets : Cond.instanceMethod mi_X10_meets.1 ∈ gwl ∧ Cond.selects mi_X10_meets.1.cls mi_X10_meets.1 mi_X10_meets.1 ∈ gwl := ⟨gwl_in6 142 rfl rfl, gwl_in0 56 rfl rfl⟩
set_option maxRecDepth 100000 in
theorem cd_X10_meets : Cond.code mi_X10_meets.1 (mi_C mi_X10_meets) (mi_L mi_X10_meets) (mi_R mi_X10_meets) ∈ gwl ∧ Cond.initialized mi_X10_meets.1.cls ∈ gwl ∧ mi_X10_meets.1.cls ≠ "java/lang/invoke/MethodHandle" ∧ mi_X10_meets.1.cls ≠ "java/lang/invoke/VarHandle" ∧ (parseMethodDescriptor mi_X10_meets.1.desc).map (fun d => d.parameters.length) = some 3 := ⟨gwl_in6 143 rfl rfl, gwl_in1 11 rfl rfl, by decide +kernel, by decide +kernel, by decide +kernel⟩
set_option maxRecDepth 100000 in
theorem vt_X10_bestSound : Cond.instanceMethod mi_X10_bestSound.1 ∈ gwl ∧ Cond.selects mi_X10_bestSound.1.cls mi_X10_bestSound.1 mi_X10_bestSound.1 ∈ gwl := ⟨gwl_in6 154 rfl rfl, gwl_in0 59 rfl rfl⟩
set_option maxRecDepth 100000 in
theorem cd_X10_bestSound : Cond.code mi_X10_bestSound.1 (mi_C mi_X10_bestSound) (mi_L mi_X10_bestSound) (mi_R mi_X10_bestSound) ∈ gwl ∧ Cond.initialized mi_X10_bestSound.1.cls ∈ gwl ∧ mi_X10_bestSound.1.cls ≠ "java/lang/invoke/MethodHandle" ∧ mi_X10_bestSound.1.cls ≠ "java/lang/invoke/VarHandle" ∧ (parseMethodDescriptor mi_X10_bestSound.1.desc).map (fun d => d.parameters.length) = some 4 := ⟨gwl_in6 155 rfl rfl, gwl_in1 11 rfl rfl, by decide +kernel, by decide +kernel, by decide +kernel⟩
set_option maxRecDepth 100000 in
theorem vt_X10_fills : Cond.instanceMethod mi_X10_fills.1 ∈ gwl ∧ Cond.selects mi_X10_fills.1.cls mi_X10_fills.1 mi_X10_fills.1 ∈ gwl := ⟨gwl_in6 134 rfl rfl, gwl_in0 54 rfl rfl⟩
set_option maxRecDepth 100000 in
theorem cd_X10_fills : Cond.code mi_X10_fills.1 (mi_C mi_X10_fills) (mi_L mi_X10_fills) (mi_R mi_X10_fills) ∈ gwl ∧ Cond.initialized mi_X10_fills.1.cls ∈ gwl ∧ mi_X10_fills.1.cls ≠ "java/lang/invoke/MethodHandle" ∧ mi_X10_fills.1.cls ≠ "java/lang/invoke/VarHandle" ∧ (parseMethodDescriptor mi_X10_fills.1.desc).map (fun d => d.parameters.length) = some 4 := ⟨gwl_in6 135 rfl rfl, gwl_in1 11 rfl rfl, by decide +kernel, by decide +kernel, by decide +kernel⟩
set_option maxRecDepth 100000 in
theorem st_X10_lowest : Cond.static mi_X10_lowest.1 ∈ gwl := gwl_in6 169 rfl rfl
set_option maxRecDepth 100000 in
theorem cd_X10_lowest : Cond.code mi_X10_lowest.1 (mi_C mi_X10_lowest) (mi_L mi_X10_lowest) (mi_R mi_X10_lowest) ∈ gwl ∧ Cond.initialized mi_X10_lowest.1.cls ∈ gwl ∧ mi_X10_lowest.1.cls ≠ "java/lang/invoke/MethodHandle" ∧ mi_X10_lowest.1.cls ≠ "java/lang/invoke/VarHandle" ∧ (parseMethodDescriptor mi_X10_lowest.1.desc).map (fun d => d.parameters.length) = some 1 := ⟨gwl_in6 170 rfl rfl, gwl_in1 11 rfl rfl, by decide +kernel, by decide +kernel, by decide +kernel⟩
set_option maxRecDepth 100000 in
theorem vt_X10_drawnWith : Cond.instanceMethod mi_X10_drawnWith.1 ∈ gwl ∧ Cond.selects mi_X10_drawnWith.1.cls mi_X10_drawnWith.1 mi_X10_drawnWith.1 ∈ gwl := ⟨gwl_in6 173 rfl rfl, gwl_in0 61 rfl rfl⟩
set_option maxRecDepth 100000 in
theorem cd_X10_drawnWith : Cond.code mi_X10_drawnWith.1 (mi_C mi_X10_drawnWith) (mi_L mi_X10_drawnWith) (mi_R mi_X10_drawnWith) ∈ gwl ∧ Cond.initialized mi_X10_drawnWith.1.cls ∈ gwl ∧ mi_X10_drawnWith.1.cls ≠ "java/lang/invoke/MethodHandle" ∧ mi_X10_drawnWith.1.cls ≠ "java/lang/invoke/VarHandle" ∧ (parseMethodDescriptor mi_X10_drawnWith.1.desc).map (fun d => d.parameters.length) = some 2 := ⟨gwl_in6 174 rfl rfl, gwl_in1 11 rfl rfl, by decide +kernel, by decide +kernel, by decide +kernel⟩
set_option maxRecDepth 100000 in
theorem st_X10_isSheet : Cond.static mi_X10_isSheet.1 ∈ gwl := gwl_in6 162 rfl rfl
set_option maxRecDepth 100000 in
theorem cd_X10_isSheet : Cond.code mi_X10_isSheet.1 (mi_C mi_X10_isSheet) (mi_L mi_X10_isSheet) (mi_R mi_X10_isSheet) ∈ gwl ∧ Cond.initialized mi_X10_isSheet.1.cls ∈ gwl ∧ mi_X10_isSheet.1.cls ≠ "java/lang/invoke/MethodHandle" ∧ mi_X10_isSheet.1.cls ≠ "java/lang/invoke/VarHandle" ∧ (parseMethodDescriptor mi_X10_isSheet.1.desc).map (fun d => d.parameters.length) = some 2 := ⟨gwl_in6 163 rfl rfl, gwl_in1 11 rfl rfl, by decide +kernel, by decide +kernel, by decide +kernel⟩
set_option maxRecDepth 100000 in
theorem vt_X10_explains : Cond.instanceMethod mi_X10_explains.1 ∈ gwl ∧ Cond.selects mi_X10_explains.1.cls mi_X10_explains.1 mi_X10_explains.1 ∈ gwl := ⟨gwl_in6 166 rfl rfl, gwl_in0 60 rfl rfl⟩
set_option maxRecDepth 100000 in
theorem cd_X10_explains : Cond.code mi_X10_explains.1 (mi_C mi_X10_explains) (mi_L mi_X10_explains) (mi_R mi_X10_explains) ∈ gwl ∧ Cond.initialized mi_X10_explains.1.cls ∈ gwl ∧ mi_X10_explains.1.cls ≠ "java/lang/invoke/MethodHandle" ∧ mi_X10_explains.1.cls ≠ "java/lang/invoke/VarHandle" ∧ (parseMethodDescriptor mi_X10_explains.1.desc).map (fun d => d.parameters.length) = some 6 := ⟨gwl_in6 167 rfl rfl, gwl_in1 11 rfl rfl, by decide +kernel, by decide +kernel, by decide +kernel⟩
set_option maxRecDepth 100000 in
theorem vt_X10_farOf : Cond.instanceMethod mi_X10_farOf.1 ∈ gwl ∧ Cond.selects mi_X10_farOf.1.cls mi_X10_farOf.1 mi_X10_farOf.1 ∈ gwl := ⟨gwl_in6 195 rfl rfl, gwl_in0 62 rfl rfl⟩
set_option maxRecDepth 100000 in
theorem cd_X10_farOf : Cond.code mi_X10_farOf.1 (mi_C mi_X10_farOf) (mi_L mi_X10_farOf) (mi_R mi_X10_farOf) ∈ gwl ∧ Cond.initialized mi_X10_farOf.1.cls ∈ gwl ∧ mi_X10_farOf.1.cls ≠ "java/lang/invoke/MethodHandle" ∧ mi_X10_farOf.1.cls ≠ "java/lang/invoke/VarHandle" ∧ (parseMethodDescriptor mi_X10_farOf.1.desc).map (fun d => d.parameters.length) = some 2 := ⟨gwl_in6 196 rfl rfl, gwl_in1 11 rfl rfl, by decide +kernel, by decide +kernel, by decide +kernel⟩
set_option maxRecDepth 100000 in
theorem vt_X10_heardAt : Cond.instanceMethod mi_X10_heardAt.1 ∈ gwl ∧ Cond.selects mi_X10_heardAt.1.cls mi_X10_heardAt.1 mi_X10_heardAt.1 ∈ gwl := ⟨gwl_in6 203 rfl rfl, gwl_in0 63 rfl rfl⟩
set_option maxRecDepth 100000 in
theorem cd_X10_heardAt : Cond.code mi_X10_heardAt.1 (mi_C mi_X10_heardAt) (mi_L mi_X10_heardAt) (mi_R mi_X10_heardAt) ∈ gwl ∧ Cond.initialized mi_X10_heardAt.1.cls ∈ gwl ∧ mi_X10_heardAt.1.cls ≠ "java/lang/invoke/MethodHandle" ∧ mi_X10_heardAt.1.cls ≠ "java/lang/invoke/VarHandle" ∧ (parseMethodDescriptor mi_X10_heardAt.1.desc).map (fun d => d.parameters.length) = some 2 := ⟨gwl_in6 204 rfl rfl, gwl_in1 11 rfl rfl, by decide +kernel, by decide +kernel, by decide +kernel⟩
set_option maxRecDepth 100000 in
theorem vt_X10_whistle : Cond.instanceMethod mi_X10_whistle.1 ∈ gwl ∧ Cond.selects mi_X10_whistle.1.cls mi_X10_whistle.1 mi_X10_whistle.1 ∈ gwl := ⟨gwl_in5 210 rfl rfl, gwl_in5 211 rfl rfl⟩
set_option maxRecDepth 100000 in
theorem cd_X10_whistle : Cond.code mi_X10_whistle.1 (mi_C mi_X10_whistle) (mi_L mi_X10_whistle) (mi_R mi_X10_whistle) ∈ gwl ∧ Cond.initialized mi_X10_whistle.1.cls ∈ gwl ∧ mi_X10_whistle.1.cls ≠ "java/lang/invoke/MethodHandle" ∧ mi_X10_whistle.1.cls ≠ "java/lang/invoke/VarHandle" ∧ (parseMethodDescriptor mi_X10_whistle.1.desc).map (fun d => d.parameters.length) = some 4 := ⟨gwl_in5 212 rfl rfl, gwl_in1 11 rfl rfl, by decide +kernel, by decide +kernel, by decide +kernel⟩
set_option maxRecDepth 100000 in
theorem st_J7_rangeCheck_23922 : Cond.static mi_J7_rangeCheck_23922.1 ∈ gwl := gwl_in3 236 rfl rfl
set_option maxRecDepth 100000 in
theorem cd_J7_rangeCheck_23922 : Cond.code mi_J7_rangeCheck_23922.1 (mi_C mi_J7_rangeCheck_23922) (mi_L mi_J7_rangeCheck_23922) (mi_R mi_J7_rangeCheck_23922) ∈ gwl ∧ Cond.initialized mi_J7_rangeCheck_23922.1.cls ∈ gwl ∧ mi_J7_rangeCheck_23922.1.cls ≠ "java/lang/invoke/MethodHandle" ∧ mi_J7_rangeCheck_23922.1.cls ≠ "java/lang/invoke/VarHandle" ∧ (parseMethodDescriptor mi_J7_rangeCheck_23922.1.desc).map (fun d => d.parameters.length) = some 3 := ⟨gwl_in3 237 rfl rfl, gwl_in1 15 rfl rfl, by decide +kernel, by decide +kernel, by decide +kernel⟩
set_option maxRecDepth 100000 in
theorem in_X9_init : Cond.instanceMethod mi_X9_init.1 ∈ gwl ∧ mi_X9_init.1.name = "<init>" ∧ mi_R mi_X9_init = none := ⟨gwl_in1 19 rfl rfl, rfl, rfl⟩
set_option maxRecDepth 100000 in
theorem cd_X9_init : Cond.code mi_X9_init.1 (mi_C mi_X9_init) (mi_L mi_X9_init) (mi_R mi_X9_init) ∈ gwl ∧ Cond.initialized mi_X9_init.1.cls ∈ gwl ∧ mi_X9_init.1.cls ≠ "java/lang/invoke/MethodHandle" ∧ mi_X9_init.1.cls ≠ "java/lang/invoke/VarHandle" ∧ (parseMethodDescriptor mi_X9_init.1.desc).map (fun d => d.parameters.length) = some 0 := ⟨gwl_in1 20 rfl rfl, gwl_in1 1 rfl rfl, by decide +kernel, by decide +kernel, by decide +kernel⟩
set_option maxRecDepth 100000 in
theorem in_X10_init : Cond.instanceMethod mi_X10_init.1 ∈ gwl ∧ mi_X10_init.1.name = "<init>" ∧ mi_R mi_X10_init = none := ⟨gwl_in4 218 rfl rfl, rfl, rfl⟩
set_option maxRecDepth 100000 in
theorem cd_X10_init : Cond.code mi_X10_init.1 (mi_C mi_X10_init) (mi_L mi_X10_init) (mi_R mi_X10_init) ∈ gwl ∧ Cond.initialized mi_X10_init.1.cls ∈ gwl ∧ mi_X10_init.1.cls ≠ "java/lang/invoke/MethodHandle" ∧ mi_X10_init.1.cls ≠ "java/lang/invoke/VarHandle" ∧ (parseMethodDescriptor mi_X10_init.1.desc).map (fun d => d.parameters.length) = some 0 := ⟨gwl_in4 219 rfl rfl, gwl_in1 11 rfl rfl, by decide +kernel, by decide +kernel, by decide +kernel⟩
set_option maxRecDepth 100000 in
theorem vt_X9_fire : Cond.instanceMethod mi_X9_fire.1 ∈ gwl ∧ Cond.selects mi_X9_fire.1.cls mi_X9_fire.1 mi_X9_fire.1 ∈ gwl := ⟨gwl_in2 150 rfl rfl, gwl_in2 151 rfl rfl⟩
set_option maxRecDepth 100000 in
theorem cd_X9_fire : Cond.code mi_X9_fire.1 (mi_C mi_X9_fire) (mi_L mi_X9_fire) (mi_R mi_X9_fire) ∈ gwl ∧ Cond.initialized mi_X9_fire.1.cls ∈ gwl ∧ mi_X9_fire.1.cls ≠ "java/lang/invoke/MethodHandle" ∧ mi_X9_fire.1.cls ≠ "java/lang/invoke/VarHandle" ∧ (parseMethodDescriptor mi_X9_fire.1.desc).map (fun d => d.parameters.length) = some 1 := ⟨gwl_in2 152 rfl rfl, gwl_in1 1 rfl rfl, by decide +kernel, by decide +kernel, by decide +kernel⟩
set_option maxRecDepth 100000 in
theorem vt_X10_fire : Cond.instanceMethod mi_X10_fire.1 ∈ gwl ∧ Cond.selects mi_X10_fire.1.cls mi_X10_fire.1 mi_X10_fire.1 ∈ gwl := ⟨gwl_in5 153 rfl rfl, gwl_in5 154 rfl rfl⟩
set_option maxRecDepth 100000 in
theorem cd_X10_fire : Cond.code mi_X10_fire.1 (mi_C mi_X10_fire) (mi_L mi_X10_fire) (mi_R mi_X10_fire) ∈ gwl ∧ Cond.initialized mi_X10_fire.1.cls ∈ gwl ∧ mi_X10_fire.1.cls ≠ "java/lang/invoke/MethodHandle" ∧ mi_X10_fire.1.cls ≠ "java/lang/invoke/VarHandle" ∧ (parseMethodDescriptor mi_X10_fire.1.desc).map (fun d => d.parameters.length) = some 1 := ⟨gwl_in5 155 rfl rfl, gwl_in1 11 rfl rfl, by decide +kernel, by decide +kernel, by decide +kernel⟩
set_option maxRecDepth 100000 in
theorem vt_X9_water : Cond.instanceMethod mi_X9_water.1 ∈ gwl ∧ Cond.selects mi_X9_water.1.cls mi_X9_water.1 mi_X9_water.1 ∈ gwl := ⟨gwl_in2 167 rfl rfl, gwl_in2 168 rfl rfl⟩
set_option maxRecDepth 100000 in
theorem cd_X9_water : Cond.code mi_X9_water.1 (mi_C mi_X9_water) (mi_L mi_X9_water) (mi_R mi_X9_water) ∈ gwl ∧ Cond.initialized mi_X9_water.1.cls ∈ gwl ∧ mi_X9_water.1.cls ≠ "java/lang/invoke/MethodHandle" ∧ mi_X9_water.1.cls ≠ "java/lang/invoke/VarHandle" ∧ (parseMethodDescriptor mi_X9_water.1.desc).map (fun d => d.parameters.length) = some 1 := ⟨gwl_in2 169 rfl rfl, gwl_in1 1 rfl rfl, by decide +kernel, by decide +kernel, by decide +kernel⟩
set_option maxRecDepth 100000 in
theorem vt_X10_water : Cond.instanceMethod mi_X10_water.1 ∈ gwl ∧ Cond.selects mi_X10_water.1.cls mi_X10_water.1 mi_X10_water.1 ∈ gwl := ⟨gwl_in5 165 rfl rfl, gwl_in5 166 rfl rfl⟩
set_option maxRecDepth 100000 in
theorem cd_X10_water : Cond.code mi_X10_water.1 (mi_C mi_X10_water) (mi_L mi_X10_water) (mi_R mi_X10_water) ∈ gwl ∧ Cond.initialized mi_X10_water.1.cls ∈ gwl ∧ mi_X10_water.1.cls ≠ "java/lang/invoke/MethodHandle" ∧ mi_X10_water.1.cls ≠ "java/lang/invoke/VarHandle" ∧ (parseMethodDescriptor mi_X10_water.1.desc).map (fun d => d.parameters.length) = some 1 := ⟨gwl_in5 167 rfl rfl, gwl_in1 11 rfl rfl, by decide +kernel, by decide +kernel, by decide +kernel⟩
set_option maxRecDepth 100000 in
theorem vt_X9_valve : Cond.instanceMethod mi_X9_valve.1 ∈ gwl ∧ Cond.selects mi_X9_valve.1.cls mi_X9_valve.1 mi_X9_valve.1 ∈ gwl := ⟨gwl_in2 172 rfl rfl, gwl_in2 173 rfl rfl⟩
set_option maxRecDepth 100000 in
theorem cd_X9_valve : Cond.code mi_X9_valve.1 (mi_C mi_X9_valve) (mi_L mi_X9_valve) (mi_R mi_X9_valve) ∈ gwl ∧ Cond.initialized mi_X9_valve.1.cls ∈ gwl ∧ mi_X9_valve.1.cls ≠ "java/lang/invoke/MethodHandle" ∧ mi_X9_valve.1.cls ≠ "java/lang/invoke/VarHandle" ∧ (parseMethodDescriptor mi_X9_valve.1.desc).map (fun d => d.parameters.length) = some 1 := ⟨gwl_in2 174 rfl rfl, gwl_in1 1 rfl rfl, by decide +kernel, by decide +kernel, by decide +kernel⟩
set_option maxRecDepth 100000 in
theorem vt_X10_valve : Cond.instanceMethod mi_X10_valve.1 ∈ gwl ∧ Cond.selects mi_X10_valve.1.cls mi_X10_valve.1 mi_X10_valve.1 ∈ gwl := ⟨gwl_in5 170 rfl rfl, gwl_in5 171 rfl rfl⟩
set_option maxRecDepth 100000 in
theorem cd_X10_valve : Cond.code mi_X10_valve.1 (mi_C mi_X10_valve) (mi_L mi_X10_valve) (mi_R mi_X10_valve) ∈ gwl ∧ Cond.initialized mi_X10_valve.1.cls ∈ gwl ∧ mi_X10_valve.1.cls ≠ "java/lang/invoke/MethodHandle" ∧ mi_X10_valve.1.cls ≠ "java/lang/invoke/VarHandle" ∧ (parseMethodDescriptor mi_X10_valve.1.desc).map (fun d => d.parameters.length) = some 1 := ⟨gwl_in5 172 rfl rfl, gwl_in1 11 rfl rfl, by decide +kernel, by decide +kernel, by decide +kernel⟩
set_option maxRecDepth 100000 in
theorem vt_X9_pressure : Cond.instanceMethod mi_X9_pressure.1 ∈ gwl ∧ Cond.selects mi_X9_pressure.1.cls mi_X9_pressure.1 mi_X9_pressure.1 ∈ gwl := ⟨gwl_in2 176 rfl rfl, gwl_in2 177 rfl rfl⟩
set_option maxRecDepth 100000 in
theorem cd_X9_pressure : Cond.code mi_X9_pressure.1 (mi_C mi_X9_pressure) (mi_L mi_X9_pressure) (mi_R mi_X9_pressure) ∈ gwl ∧ Cond.initialized mi_X9_pressure.1.cls ∈ gwl ∧ mi_X9_pressure.1.cls ≠ "java/lang/invoke/MethodHandle" ∧ mi_X9_pressure.1.cls ≠ "java/lang/invoke/VarHandle" ∧ (parseMethodDescriptor mi_X9_pressure.1.desc).map (fun d => d.parameters.length) = some 1 := ⟨gwl_in2 178 rfl rfl, gwl_in1 1 rfl rfl, by decide +kernel, by decide +kernel, by decide +kernel⟩
set_option maxRecDepth 100000 in
theorem vt_X10_pressure : Cond.instanceMethod mi_X10_pressure.1 ∈ gwl ∧ Cond.selects mi_X10_pressure.1.cls mi_X10_pressure.1 mi_X10_pressure.1 ∈ gwl := ⟨gwl_in5 176 rfl rfl, gwl_in5 177 rfl rfl⟩
set_option maxRecDepth 100000 in
theorem cd_X10_pressure : Cond.code mi_X10_pressure.1 (mi_C mi_X10_pressure) (mi_L mi_X10_pressure) (mi_R mi_X10_pressure) ∈ gwl ∧ Cond.initialized mi_X10_pressure.1.cls ∈ gwl ∧ mi_X10_pressure.1.cls ≠ "java/lang/invoke/MethodHandle" ∧ mi_X10_pressure.1.cls ≠ "java/lang/invoke/VarHandle" ∧ (parseMethodDescriptor mi_X10_pressure.1.desc).map (fun d => d.parameters.length) = some 1 := ⟨gwl_in5 178 rfl rfl, gwl_in1 11 rfl rfl, by decide +kernel, by decide +kernel, by decide +kernel⟩
set_option maxRecDepth 100000 in
theorem vt_X9_boiler : Cond.instanceMethod mi_X9_boiler.1 ∈ gwl ∧ Cond.selects mi_X9_boiler.1.cls mi_X9_boiler.1 mi_X9_boiler.1 ∈ gwl := ⟨gwl_in2 180 rfl rfl, gwl_in2 181 rfl rfl⟩
set_option maxRecDepth 100000 in
theorem cd_X9_boiler : Cond.code mi_X9_boiler.1 (mi_C mi_X9_boiler) (mi_L mi_X9_boiler) (mi_R mi_X9_boiler) ∈ gwl ∧ Cond.initialized mi_X9_boiler.1.cls ∈ gwl ∧ mi_X9_boiler.1.cls ≠ "java/lang/invoke/MethodHandle" ∧ mi_X9_boiler.1.cls ≠ "java/lang/invoke/VarHandle" ∧ (parseMethodDescriptor mi_X9_boiler.1.desc).map (fun d => d.parameters.length) = some 1 := ⟨gwl_in2 182 rfl rfl, gwl_in1 1 rfl rfl, by decide +kernel, by decide +kernel, by decide +kernel⟩
set_option maxRecDepth 100000 in
theorem vt_X10_boiler : Cond.instanceMethod mi_X10_boiler.1 ∈ gwl ∧ Cond.selects mi_X10_boiler.1.cls mi_X10_boiler.1 mi_X10_boiler.1 ∈ gwl := ⟨gwl_in5 180 rfl rfl, gwl_in5 181 rfl rfl⟩
set_option maxRecDepth 100000 in
theorem cd_X10_boiler : Cond.code mi_X10_boiler.1 (mi_C mi_X10_boiler) (mi_L mi_X10_boiler) (mi_R mi_X10_boiler) ∈ gwl ∧ Cond.initialized mi_X10_boiler.1.cls ∈ gwl ∧ mi_X10_boiler.1.cls ≠ "java/lang/invoke/MethodHandle" ∧ mi_X10_boiler.1.cls ≠ "java/lang/invoke/VarHandle" ∧ (parseMethodDescriptor mi_X10_boiler.1.desc).map (fun d => d.parameters.length) = some 1 := ⟨gwl_in5 182 rfl rfl, gwl_in1 11 rfl rfl, by decide +kernel, by decide +kernel, by decide +kernel⟩
set_option maxRecDepth 100000 in
theorem vt_X9_beat : Cond.instanceMethod mi_X9_beat.1 ∈ gwl ∧ Cond.selects mi_X9_beat.1.cls mi_X9_beat.1 mi_X9_beat.1 ∈ gwl := ⟨gwl_in2 188 rfl rfl, gwl_in2 189 rfl rfl⟩
set_option maxRecDepth 100000 in
theorem cd_X9_beat : Cond.code mi_X9_beat.1 (mi_C mi_X9_beat) (mi_L mi_X9_beat) (mi_R mi_X9_beat) ∈ gwl ∧ Cond.initialized mi_X9_beat.1.cls ∈ gwl ∧ mi_X9_beat.1.cls ≠ "java/lang/invoke/MethodHandle" ∧ mi_X9_beat.1.cls ≠ "java/lang/invoke/VarHandle" ∧ (parseMethodDescriptor mi_X9_beat.1.desc).map (fun d => d.parameters.length) = some 1 := ⟨gwl_in2 190 rfl rfl, gwl_in1 1 rfl rfl, by decide +kernel, by decide +kernel, by decide +kernel⟩
set_option maxRecDepth 100000 in
theorem vt_X10_beat : Cond.instanceMethod mi_X10_beat.1 ∈ gwl ∧ Cond.selects mi_X10_beat.1.cls mi_X10_beat.1 mi_X10_beat.1 ∈ gwl := ⟨gwl_in5 188 rfl rfl, gwl_in5 189 rfl rfl⟩
set_option maxRecDepth 100000 in
theorem cd_X10_beat : Cond.code mi_X10_beat.1 (mi_C mi_X10_beat) (mi_L mi_X10_beat) (mi_R mi_X10_beat) ∈ gwl ∧ Cond.initialized mi_X10_beat.1.cls ∈ gwl ∧ mi_X10_beat.1.cls ≠ "java/lang/invoke/MethodHandle" ∧ mi_X10_beat.1.cls ≠ "java/lang/invoke/VarHandle" ∧ (parseMethodDescriptor mi_X10_beat.1.desc).map (fun d => d.parameters.length) = some 1 := ⟨gwl_in5 190 rfl rfl, gwl_in1 11 rfl rfl, by decide +kernel, by decide +kernel, by decide +kernel⟩
set_option maxRecDepth 100000 in
theorem vt_X9_whistle : Cond.instanceMethod mi_X9_whistle.1 ∈ gwl ∧ Cond.selects mi_X9_whistle.1.cls mi_X9_whistle.1 mi_X9_whistle.1 ∈ gwl := ⟨gwl_in2 226 rfl rfl, gwl_in2 227 rfl rfl⟩
set_option maxRecDepth 100000 in
theorem cd_X9_whistle : Cond.code mi_X9_whistle.1 (mi_C mi_X9_whistle) (mi_L mi_X9_whistle) (mi_R mi_X9_whistle) ∈ gwl ∧ Cond.initialized mi_X9_whistle.1.cls ∈ gwl ∧ mi_X9_whistle.1.cls ≠ "java/lang/invoke/MethodHandle" ∧ mi_X9_whistle.1.cls ≠ "java/lang/invoke/VarHandle" ∧ (parseMethodDescriptor mi_X9_whistle.1.desc).map (fun d => d.parameters.length) = some 4 := ⟨gwl_in2 228 rfl rfl, gwl_in1 1 rfl rfl, by decide +kernel, by decide +kernel, by decide +kernel⟩
set_option maxRecDepth 100000 in
theorem vt_X9_told : Cond.instanceMethod mi_X9_told.1 ∈ gwl ∧ Cond.selects mi_X9_told.1.cls mi_X9_told.1 mi_X9_told.1 ∈ gwl := ⟨gwl_in2 235 rfl rfl, gwl_in2 236 rfl rfl⟩
set_option maxRecDepth 100000 in
theorem cd_X9_told : Cond.code mi_X9_told.1 (mi_C mi_X9_told) (mi_L mi_X9_told) (mi_R mi_X9_told) ∈ gwl ∧ Cond.initialized mi_X9_told.1.cls ∈ gwl ∧ mi_X9_told.1.cls ≠ "java/lang/invoke/MethodHandle" ∧ mi_X9_told.1.cls ≠ "java/lang/invoke/VarHandle" ∧ (parseMethodDescriptor mi_X9_told.1.desc).map (fun d => d.parameters.length) = some 2 := ⟨gwl_in2 237 rfl rfl, gwl_in1 1 rfl rfl, by decide +kernel, by decide +kernel, by decide +kernel⟩
set_option maxRecDepth 100000 in
theorem vt_X10_told : Cond.instanceMethod mi_X10_told.1 ∈ gwl ∧ Cond.selects mi_X10_told.1.cls mi_X10_told.1 mi_X10_told.1 ∈ gwl := ⟨gwl_in5 216 rfl rfl, gwl_in5 217 rfl rfl⟩
set_option maxRecDepth 100000 in
theorem cd_X10_told : Cond.code mi_X10_told.1 (mi_C mi_X10_told) (mi_L mi_X10_told) (mi_R mi_X10_told) ∈ gwl ∧ Cond.initialized mi_X10_told.1.cls ∈ gwl ∧ mi_X10_told.1.cls ≠ "java/lang/invoke/MethodHandle" ∧ mi_X10_told.1.cls ≠ "java/lang/invoke/VarHandle" ∧ (parseMethodDescriptor mi_X10_told.1.desc).map (fun d => d.parameters.length) = some 2 := ⟨gwl_in5 218 rfl rfl, gwl_in1 11 rfl rfl, by decide +kernel, by decide +kernel, by decide +kernel⟩
set_option maxRecDepth 100000 in
theorem vt_X9_stem : Cond.instanceMethod mi_X9_stem.1 ∈ gwl ∧ Cond.selects mi_X9_stem.1.cls mi_X9_stem.1 mi_X9_stem.1 ∈ gwl := ⟨gwl_in3 3 rfl rfl, gwl_in3 4 rfl rfl⟩
set_option maxRecDepth 100000 in
theorem cd_X9_stem : Cond.code mi_X9_stem.1 (mi_C mi_X9_stem) (mi_L mi_X9_stem) (mi_R mi_X9_stem) ∈ gwl ∧ Cond.initialized mi_X9_stem.1.cls ∈ gwl ∧ mi_X9_stem.1.cls ≠ "java/lang/invoke/MethodHandle" ∧ mi_X9_stem.1.cls ≠ "java/lang/invoke/VarHandle" ∧ (parseMethodDescriptor mi_X9_stem.1.desc).map (fun d => d.parameters.length) = some 2 := ⟨gwl_in3 5 rfl rfl, gwl_in1 1 rfl rfl, by decide +kernel, by decide +kernel, by decide +kernel⟩
set_option maxRecDepth 100000 in
theorem vt_X10_stem : Cond.instanceMethod mi_X10_stem.1 ∈ gwl ∧ Cond.selects mi_X10_stem.1.cls mi_X10_stem.1 mi_X10_stem.1 ∈ gwl := ⟨gwl_in5 225 rfl rfl, gwl_in5 226 rfl rfl⟩
set_option maxRecDepth 100000 in
theorem cd_X10_stem : Cond.code mi_X10_stem.1 (mi_C mi_X10_stem) (mi_L mi_X10_stem) (mi_R mi_X10_stem) ∈ gwl ∧ Cond.initialized mi_X10_stem.1.cls ∈ gwl ∧ mi_X10_stem.1.cls ≠ "java/lang/invoke/MethodHandle" ∧ mi_X10_stem.1.cls ≠ "java/lang/invoke/VarHandle" ∧ (parseMethodDescriptor mi_X10_stem.1.desc).map (fun d => d.parameters.length) = some 2 := ⟨gwl_in5 227 rfl rfl, gwl_in1 11 rfl rfl, by decide +kernel, by decide +kernel, by decide +kernel⟩
set_option maxRecDepth 100000 in
theorem vt_X9_crack : Cond.instanceMethod mi_X9_crack.1 ∈ gwl ∧ Cond.selects mi_X9_crack.1.cls mi_X9_crack.1 mi_X9_crack.1 ∈ gwl := ⟨gwl_in3 7 rfl rfl, gwl_in3 8 rfl rfl⟩
set_option maxRecDepth 100000 in
theorem cd_X9_crack : Cond.code mi_X9_crack.1 (mi_C mi_X9_crack) (mi_L mi_X9_crack) (mi_R mi_X9_crack) ∈ gwl ∧ Cond.initialized mi_X9_crack.1.cls ∈ gwl ∧ mi_X9_crack.1.cls ≠ "java/lang/invoke/MethodHandle" ∧ mi_X9_crack.1.cls ≠ "java/lang/invoke/VarHandle" ∧ (parseMethodDescriptor mi_X9_crack.1.desc).map (fun d => d.parameters.length) = some 2 := ⟨gwl_in3 9 rfl rfl, gwl_in1 1 rfl rfl, by decide +kernel, by decide +kernel, by decide +kernel⟩
set_option maxRecDepth 100000 in
theorem vt_X10_crack : Cond.instanceMethod mi_X10_crack.1 ∈ gwl ∧ Cond.selects mi_X10_crack.1.cls mi_X10_crack.1 mi_X10_crack.1 ∈ gwl := ⟨gwl_in5 231 rfl rfl, gwl_in5 232 rfl rfl⟩
set_option maxRecDepth 100000 in
theorem cd_X10_crack : Cond.code mi_X10_crack.1 (mi_C mi_X10_crack) (mi_L mi_X10_crack) (mi_R mi_X10_crack) ∈ gwl ∧ Cond.initialized mi_X10_crack.1.cls ∈ gwl ∧ mi_X10_crack.1.cls ≠ "java/lang/invoke/MethodHandle" ∧ mi_X10_crack.1.cls ≠ "java/lang/invoke/VarHandle" ∧ (parseMethodDescriptor mi_X10_crack.1.desc).map (fun d => d.parameters.length) = some 2 := ⟨gwl_in5 233 rfl rfl, gwl_in1 11 rfl rfl, by decide +kernel, by decide +kernel, by decide +kernel⟩
set_option maxRecDepth 100000 in
theorem vt_X9_leak : Cond.instanceMethod mi_X9_leak.1 ∈ gwl ∧ Cond.selects mi_X9_leak.1.cls mi_X9_leak.1 mi_X9_leak.1 ∈ gwl := ⟨gwl_in3 11 rfl rfl, gwl_in3 12 rfl rfl⟩
set_option maxRecDepth 100000 in
theorem cd_X9_leak : Cond.code mi_X9_leak.1 (mi_C mi_X9_leak) (mi_L mi_X9_leak) (mi_R mi_X9_leak) ∈ gwl ∧ Cond.initialized mi_X9_leak.1.cls ∈ gwl ∧ mi_X9_leak.1.cls ≠ "java/lang/invoke/MethodHandle" ∧ mi_X9_leak.1.cls ≠ "java/lang/invoke/VarHandle" ∧ (parseMethodDescriptor mi_X9_leak.1.desc).map (fun d => d.parameters.length) = some 2 := ⟨gwl_in3 13 rfl rfl, gwl_in1 1 rfl rfl, by decide +kernel, by decide +kernel, by decide +kernel⟩
set_option maxRecDepth 100000 in
theorem vt_X10_leak : Cond.instanceMethod mi_X10_leak.1 ∈ gwl ∧ Cond.selects mi_X10_leak.1.cls mi_X10_leak.1 mi_X10_leak.1 ∈ gwl := ⟨gwl_in5 236 rfl rfl, gwl_in5 237 rfl rfl⟩
set_option maxRecDepth 100000 in
theorem cd_X10_leak : Cond.code mi_X10_leak.1 (mi_C mi_X10_leak) (mi_L mi_X10_leak) (mi_R mi_X10_leak) ∈ gwl ∧ Cond.initialized mi_X10_leak.1.cls ∈ gwl ∧ mi_X10_leak.1.cls ≠ "java/lang/invoke/MethodHandle" ∧ mi_X10_leak.1.cls ≠ "java/lang/invoke/VarHandle" ∧ (parseMethodDescriptor mi_X10_leak.1.desc).map (fun d => d.parameters.length) = some 2 := ⟨gwl_in5 238 rfl rfl, gwl_in1 11 rfl rfl, by decide +kernel, by decide +kernel, by decide +kernel⟩
set_option maxRecDepth 100000 in
theorem vt_X9_pitch : Cond.instanceMethod mi_X9_pitch.1 ∈ gwl ∧ Cond.selects mi_X9_pitch.1.cls mi_X9_pitch.1 mi_X9_pitch.1 ∈ gwl := ⟨gwl_in3 15 rfl rfl, gwl_in3 16 rfl rfl⟩
set_option maxRecDepth 100000 in
theorem cd_X9_pitch : Cond.code mi_X9_pitch.1 (mi_C mi_X9_pitch) (mi_L mi_X9_pitch) (mi_R mi_X9_pitch) ∈ gwl ∧ Cond.initialized mi_X9_pitch.1.cls ∈ gwl ∧ mi_X9_pitch.1.cls ≠ "java/lang/invoke/MethodHandle" ∧ mi_X9_pitch.1.cls ≠ "java/lang/invoke/VarHandle" ∧ (parseMethodDescriptor mi_X9_pitch.1.desc).map (fun d => d.parameters.length) = some 2 := ⟨gwl_in3 17 rfl rfl, gwl_in1 1 rfl rfl, by decide +kernel, by decide +kernel, by decide +kernel⟩
set_option maxRecDepth 100000 in
theorem vt_X10_pitch : Cond.instanceMethod mi_X10_pitch.1 ∈ gwl ∧ Cond.selects mi_X10_pitch.1.cls mi_X10_pitch.1 mi_X10_pitch.1 ∈ gwl := ⟨gwl_in6 0 rfl rfl, gwl_in6 1 rfl rfl⟩
set_option maxRecDepth 100000 in
theorem cd_X10_pitch : Cond.code mi_X10_pitch.1 (mi_C mi_X10_pitch) (mi_L mi_X10_pitch) (mi_R mi_X10_pitch) ∈ gwl ∧ Cond.initialized mi_X10_pitch.1.cls ∈ gwl ∧ mi_X10_pitch.1.cls ≠ "java/lang/invoke/MethodHandle" ∧ mi_X10_pitch.1.cls ≠ "java/lang/invoke/VarHandle" ∧ (parseMethodDescriptor mi_X10_pitch.1.desc).map (fun d => d.parameters.length) = some 2 := ⟨gwl_in6 2 rfl rfl, gwl_in1 11 rfl rfl, by decide +kernel, by decide +kernel, by decide +kernel⟩
set_option maxRecDepth 100000 in
theorem vt_X9_holds : Cond.instanceMethod mi_X9_holds.1 ∈ gwl ∧ Cond.selects mi_X9_holds.1.cls mi_X9_holds.1 mi_X9_holds.1 ∈ gwl := ⟨gwl_in3 20 rfl rfl, gwl_in3 21 rfl rfl⟩
set_option maxRecDepth 100000 in
theorem cd_X9_holds : Cond.code mi_X9_holds.1 (mi_C mi_X9_holds) (mi_L mi_X9_holds) (mi_R mi_X9_holds) ∈ gwl ∧ Cond.initialized mi_X9_holds.1.cls ∈ gwl ∧ mi_X9_holds.1.cls ≠ "java/lang/invoke/MethodHandle" ∧ mi_X9_holds.1.cls ≠ "java/lang/invoke/VarHandle" ∧ (parseMethodDescriptor mi_X9_holds.1.desc).map (fun d => d.parameters.length) = some 2 := ⟨gwl_in3 22 rfl rfl, gwl_in1 1 rfl rfl, by decide +kernel, by decide +kernel, by decide +kernel⟩
set_option maxRecDepth 100000 in
theorem vt_X10_holds : Cond.instanceMethod mi_X10_holds.1 ∈ gwl ∧ Cond.selects mi_X10_holds.1.cls mi_X10_holds.1 mi_X10_holds.1 ∈ gwl := ⟨gwl_in6 4 rfl rfl, gwl_in6 5 rfl rfl⟩
set_option maxRecDepth 100000 in
theorem cd_X10_holds : Cond.code mi_X10_holds.1 (mi_C mi_X10_holds) (mi_L mi_X10_holds) (mi_R mi_X10_holds) ∈ gwl ∧ Cond.initialized mi_X10_holds.1.cls ∈ gwl ∧ mi_X10_holds.1.cls ≠ "java/lang/invoke/MethodHandle" ∧ mi_X10_holds.1.cls ≠ "java/lang/invoke/VarHandle" ∧ (parseMethodDescriptor mi_X10_holds.1.desc).map (fun d => d.parameters.length) = some 2 := ⟨gwl_in6 6 rfl rfl, gwl_in1 11 rfl rfl, by decide +kernel, by decide +kernel, by decide +kernel⟩
set_option maxRecDepth 100000 in
theorem vt_X9_tuneAll : Cond.instanceMethod mi_X9_tuneAll.1 ∈ gwl ∧ Cond.selects mi_X9_tuneAll.1.cls mi_X9_tuneAll.1 mi_X9_tuneAll.1 ∈ gwl := ⟨gwl_in3 28 rfl rfl, gwl_in3 29 rfl rfl⟩
set_option maxRecDepth 100000 in
theorem cd_X9_tuneAll : Cond.code mi_X9_tuneAll.1 (mi_C mi_X9_tuneAll) (mi_L mi_X9_tuneAll) (mi_R mi_X9_tuneAll) ∈ gwl ∧ Cond.initialized mi_X9_tuneAll.1.cls ∈ gwl ∧ mi_X9_tuneAll.1.cls ≠ "java/lang/invoke/MethodHandle" ∧ mi_X9_tuneAll.1.cls ≠ "java/lang/invoke/VarHandle" ∧ (parseMethodDescriptor mi_X9_tuneAll.1.desc).map (fun d => d.parameters.length) = some 1 := ⟨gwl_in3 30 rfl rfl, gwl_in1 1 rfl rfl, by decide +kernel, by decide +kernel, by decide +kernel⟩
set_option maxRecDepth 100000 in
theorem vt_X10_tuneAll : Cond.instanceMethod mi_X10_tuneAll.1 ∈ gwl ∧ Cond.selects mi_X10_tuneAll.1.cls mi_X10_tuneAll.1 mi_X10_tuneAll.1 ∈ gwl := ⟨gwl_in6 9 rfl rfl, gwl_in6 10 rfl rfl⟩
set_option maxRecDepth 100000 in
theorem cd_X10_tuneAll : Cond.code mi_X10_tuneAll.1 (mi_C mi_X10_tuneAll) (mi_L mi_X10_tuneAll) (mi_R mi_X10_tuneAll) ∈ gwl ∧ Cond.initialized mi_X10_tuneAll.1.cls ∈ gwl ∧ mi_X10_tuneAll.1.cls ≠ "java/lang/invoke/MethodHandle" ∧ mi_X10_tuneAll.1.cls ≠ "java/lang/invoke/VarHandle" ∧ (parseMethodDescriptor mi_X10_tuneAll.1.desc).map (fun d => d.parameters.length) = some 1 := ⟨gwl_in6 11 rfl rfl, gwl_in1 11 rfl rfl, by decide +kernel, by decide +kernel, by decide +kernel⟩
set_option maxRecDepth 100000 in
theorem vt_X9_agree : Cond.instanceMethod mi_X9_agree.1 ∈ gwl ∧ Cond.selects mi_X9_agree.1.cls mi_X9_agree.1 mi_X9_agree.1 ∈ gwl := ⟨gwl_in3 41 rfl rfl, gwl_in3 42 rfl rfl⟩
set_option maxRecDepth 100000 in
theorem cd_X9_agree : Cond.code mi_X9_agree.1 (mi_C mi_X9_agree) (mi_L mi_X9_agree) (mi_R mi_X9_agree) ∈ gwl ∧ Cond.initialized mi_X9_agree.1.cls ∈ gwl ∧ mi_X9_agree.1.cls ≠ "java/lang/invoke/MethodHandle" ∧ mi_X9_agree.1.cls ≠ "java/lang/invoke/VarHandle" ∧ (parseMethodDescriptor mi_X9_agree.1.desc).map (fun d => d.parameters.length) = some 1 := ⟨gwl_in3 43 rfl rfl, gwl_in1 1 rfl rfl, by decide +kernel, by decide +kernel, by decide +kernel⟩
set_option maxRecDepth 100000 in
theorem vt_X10_agree : Cond.instanceMethod mi_X10_agree.1 ∈ gwl ∧ Cond.selects mi_X10_agree.1.cls mi_X10_agree.1 mi_X10_agree.1 ∈ gwl := ⟨gwl_in6 13 rfl rfl, gwl_in6 14 rfl rfl⟩
set_option maxRecDepth 100000 in
theorem cd_X10_agree : Cond.code mi_X10_agree.1 (mi_C mi_X10_agree) (mi_L mi_X10_agree) (mi_R mi_X10_agree) ∈ gwl ∧ Cond.initialized mi_X10_agree.1.cls ∈ gwl ∧ mi_X10_agree.1.cls ≠ "java/lang/invoke/MethodHandle" ∧ mi_X10_agree.1.cls ≠ "java/lang/invoke/VarHandle" ∧ (parseMethodDescriptor mi_X10_agree.1.desc).map (fun d => d.parameters.length) = some 1 := ⟨gwl_in6 15 rfl rfl, gwl_in1 11 rfl rfl, by decide +kernel, by decide +kernel, by decide +kernel⟩
set_option maxRecDepth 100000 in
theorem vt_X9_feed : Cond.instanceMethod mi_X9_feed.1 ∈ gwl ∧ Cond.selects mi_X9_feed.1.cls mi_X9_feed.1 mi_X9_feed.1 ∈ gwl := ⟨gwl_in3 46 rfl rfl, gwl_in3 47 rfl rfl⟩
set_option maxRecDepth 100000 in
theorem cd_X9_feed : Cond.code mi_X9_feed.1 (mi_C mi_X9_feed) (mi_L mi_X9_feed) (mi_R mi_X9_feed) ∈ gwl ∧ Cond.initialized mi_X9_feed.1.cls ∈ gwl ∧ mi_X9_feed.1.cls ≠ "java/lang/invoke/MethodHandle" ∧ mi_X9_feed.1.cls ≠ "java/lang/invoke/VarHandle" ∧ (parseMethodDescriptor mi_X9_feed.1.desc).map (fun d => d.parameters.length) = some 1 := ⟨gwl_in3 48 rfl rfl, gwl_in1 1 rfl rfl, by decide +kernel, by decide +kernel, by decide +kernel⟩
set_option maxRecDepth 100000 in
theorem vt_X10_feed : Cond.instanceMethod mi_X10_feed.1 ∈ gwl ∧ Cond.selects mi_X10_feed.1.cls mi_X10_feed.1 mi_X10_feed.1 ∈ gwl := ⟨gwl_in6 19 rfl rfl, gwl_in6 20 rfl rfl⟩
set_option maxRecDepth 100000 in
theorem cd_X10_feed : Cond.code mi_X10_feed.1 (mi_C mi_X10_feed) (mi_L mi_X10_feed) (mi_R mi_X10_feed) ∈ gwl ∧ Cond.initialized mi_X10_feed.1.cls ∈ gwl ∧ mi_X10_feed.1.cls ≠ "java/lang/invoke/MethodHandle" ∧ mi_X10_feed.1.cls ≠ "java/lang/invoke/VarHandle" ∧ (parseMethodDescriptor mi_X10_feed.1.desc).map (fun d => d.parameters.length) = some 1 := ⟨gwl_in6 21 rfl rfl, gwl_in1 11 rfl rfl, by decide +kernel, by decide +kernel, by decide +kernel⟩
set_option maxRecDepth 100000 in
theorem vt_X9_end : Cond.instanceMethod mi_X9_end.1 ∈ gwl ∧ Cond.selects mi_X9_end.1.cls mi_X9_end.1 mi_X9_end.1 ∈ gwl := ⟨gwl_in3 54 rfl rfl, gwl_in3 55 rfl rfl⟩
set_option maxRecDepth 100000 in
theorem cd_X9_end : Cond.code mi_X9_end.1 (mi_C mi_X9_end) (mi_L mi_X9_end) (mi_R mi_X9_end) ∈ gwl ∧ Cond.initialized mi_X9_end.1.cls ∈ gwl ∧ mi_X9_end.1.cls ≠ "java/lang/invoke/MethodHandle" ∧ mi_X9_end.1.cls ≠ "java/lang/invoke/VarHandle" ∧ (parseMethodDescriptor mi_X9_end.1.desc).map (fun d => d.parameters.length) = some 1 := ⟨gwl_in3 56 rfl rfl, gwl_in1 1 rfl rfl, by decide +kernel, by decide +kernel, by decide +kernel⟩
set_option maxRecDepth 100000 in
theorem vt_X10_end : Cond.instanceMethod mi_X10_end.1 ∈ gwl ∧ Cond.selects mi_X10_end.1.cls mi_X10_end.1 mi_X10_end.1 ∈ gwl := ⟨gwl_in6 24 rfl rfl, gwl_in6 25 rfl rfl⟩
set_option maxRecDepth 100000 in
theorem cd_X10_end : Cond.code mi_X10_end.1 (mi_C mi_X10_end) (mi_L mi_X10_end) (mi_R mi_X10_end) ∈ gwl ∧ Cond.initialized mi_X10_end.1.cls ∈ gwl ∧ mi_X10_end.1.cls ≠ "java/lang/invoke/MethodHandle" ∧ mi_X10_end.1.cls ≠ "java/lang/invoke/VarHandle" ∧ (parseMethodDescriptor mi_X10_end.1.desc).map (fun d => d.parameters.length) = some 1 := ⟨gwl_in6 26 rfl rfl, gwl_in1 11 rfl rfl, by decide +kernel, by decide +kernel, by decide +kernel⟩
set_option maxRecDepth 100000 in
theorem vt_X9_tune : Cond.instanceMethod mi_X9_tune.1 ∈ gwl ∧ Cond.selects mi_X9_tune.1.cls mi_X9_tune.1 mi_X9_tune.1 ∈ gwl := ⟨gwl_in3 58 rfl rfl, gwl_in3 59 rfl rfl⟩
set_option maxRecDepth 100000 in
theorem cd_X9_tune : Cond.code mi_X9_tune.1 (mi_C mi_X9_tune) (mi_L mi_X9_tune) (mi_R mi_X9_tune) ∈ gwl ∧ Cond.initialized mi_X9_tune.1.cls ∈ gwl ∧ mi_X9_tune.1.cls ≠ "java/lang/invoke/MethodHandle" ∧ mi_X9_tune.1.cls ≠ "java/lang/invoke/VarHandle" ∧ (parseMethodDescriptor mi_X9_tune.1.desc).map (fun d => d.parameters.length) = some 0 := ⟨gwl_in3 60 rfl rfl, gwl_in1 1 rfl rfl, by decide +kernel, by decide +kernel, by decide +kernel⟩
set_option maxRecDepth 100000 in
theorem vt_X10_tune : Cond.instanceMethod mi_X10_tune.1 ∈ gwl ∧ Cond.selects mi_X10_tune.1.cls mi_X10_tune.1 mi_X10_tune.1 ∈ gwl := ⟨gwl_in6 28 rfl rfl, gwl_in6 29 rfl rfl⟩
set_option maxRecDepth 100000 in
theorem cd_X10_tune : Cond.code mi_X10_tune.1 (mi_C mi_X10_tune) (mi_L mi_X10_tune) (mi_R mi_X10_tune) ∈ gwl ∧ Cond.initialized mi_X10_tune.1.cls ∈ gwl ∧ mi_X10_tune.1.cls ≠ "java/lang/invoke/MethodHandle" ∧ mi_X10_tune.1.cls ≠ "java/lang/invoke/VarHandle" ∧ (parseMethodDescriptor mi_X10_tune.1.desc).map (fun d => d.parameters.length) = some 0 := ⟨gwl_in6 30 rfl rfl, gwl_in1 11 rfl rfl, by decide +kernel, by decide +kernel, by decide +kernel⟩
set_option maxRecDepth 100000 in
theorem vt_X9_fault : Cond.instanceMethod mi_X9_fault.1 ∈ gwl ∧ Cond.selects mi_X9_fault.1.cls mi_X9_fault.1 mi_X9_fault.1 ∈ gwl := ⟨gwl_in3 133 rfl rfl, gwl_in3 134 rfl rfl⟩
set_option maxRecDepth 100000 in
theorem cd_X9_fault : Cond.code mi_X9_fault.1 (mi_C mi_X9_fault) (mi_L mi_X9_fault) (mi_R mi_X9_fault) ∈ gwl ∧ Cond.initialized mi_X9_fault.1.cls ∈ gwl ∧ mi_X9_fault.1.cls ≠ "java/lang/invoke/MethodHandle" ∧ mi_X9_fault.1.cls ≠ "java/lang/invoke/VarHandle" ∧ (parseMethodDescriptor mi_X9_fault.1.desc).map (fun d => d.parameters.length) = some 0 := ⟨gwl_in3 135 rfl rfl, gwl_in1 1 rfl rfl, by decide +kernel, by decide +kernel, by decide +kernel⟩
set_option maxRecDepth 100000 in
theorem vt_X10_fault : Cond.instanceMethod mi_X10_fault.1 ∈ gwl ∧ Cond.selects mi_X10_fault.1.cls mi_X10_fault.1 mi_X10_fault.1 ∈ gwl := ⟨gwl_in6 75 rfl rfl, gwl_in6 76 rfl rfl⟩
set_option maxRecDepth 100000 in
theorem cd_X10_fault : Cond.code mi_X10_fault.1 (mi_C mi_X10_fault) (mi_L mi_X10_fault) (mi_R mi_X10_fault) ∈ gwl ∧ Cond.initialized mi_X10_fault.1.cls ∈ gwl ∧ mi_X10_fault.1.cls ≠ "java/lang/invoke/MethodHandle" ∧ mi_X10_fault.1.cls ≠ "java/lang/invoke/VarHandle" ∧ (parseMethodDescriptor mi_X10_fault.1.desc).map (fun d => d.parameters.length) = some 0 := ⟨gwl_in6 77 rfl rfl, gwl_in1 11 rfl rfl, by decide +kernel, by decide +kernel, by decide +kernel⟩
set_option maxRecDepth 100000 in
theorem vt_X9_tuneOf : Cond.instanceMethod mi_X9_tuneOf.1 ∈ gwl ∧ Cond.selects mi_X9_tuneOf.1.cls mi_X9_tuneOf.1 mi_X9_tuneOf.1 ∈ gwl := ⟨gwl_in3 137 rfl rfl, gwl_in3 138 rfl rfl⟩
set_option maxRecDepth 100000 in
theorem cd_X9_tuneOf : Cond.code mi_X9_tuneOf.1 (mi_C mi_X9_tuneOf) (mi_L mi_X9_tuneOf) (mi_R mi_X9_tuneOf) ∈ gwl ∧ Cond.initialized mi_X9_tuneOf.1.cls ∈ gwl ∧ mi_X9_tuneOf.1.cls ≠ "java/lang/invoke/MethodHandle" ∧ mi_X9_tuneOf.1.cls ≠ "java/lang/invoke/VarHandle" ∧ (parseMethodDescriptor mi_X9_tuneOf.1.desc).map (fun d => d.parameters.length) = some 2 := ⟨gwl_in3 139 rfl rfl, gwl_in1 1 rfl rfl, by decide +kernel, by decide +kernel, by decide +kernel⟩
set_option maxRecDepth 100000 in
theorem vt_X10_tuneOf : Cond.instanceMethod mi_X10_tuneOf.1 ∈ gwl ∧ Cond.selects mi_X10_tuneOf.1.cls mi_X10_tuneOf.1 mi_X10_tuneOf.1 ∈ gwl := ⟨gwl_in6 79 rfl rfl, gwl_in6 80 rfl rfl⟩
set_option maxRecDepth 100000 in
theorem cd_X10_tuneOf : Cond.code mi_X10_tuneOf.1 (mi_C mi_X10_tuneOf) (mi_L mi_X10_tuneOf) (mi_R mi_X10_tuneOf) ∈ gwl ∧ Cond.initialized mi_X10_tuneOf.1.cls ∈ gwl ∧ mi_X10_tuneOf.1.cls ≠ "java/lang/invoke/MethodHandle" ∧ mi_X10_tuneOf.1.cls ≠ "java/lang/invoke/VarHandle" ∧ (parseMethodDescriptor mi_X10_tuneOf.1.desc).map (fun d => d.parameters.length) = some 2 := ⟨gwl_in6 81 rfl rfl, gwl_in1 11 rfl rfl, by decide +kernel, by decide +kernel, by decide +kernel⟩
set_option maxRecDepth 100000 in
theorem vt_X9_play : Cond.instanceMethod mi_X9_play.1 ∈ gwl ∧ Cond.selects mi_X9_play.1.cls mi_X9_play.1 mi_X9_play.1 ∈ gwl := ⟨gwl_in3 170 rfl rfl, gwl_in3 171 rfl rfl⟩
set_option maxRecDepth 100000 in
theorem cd_X9_play : Cond.code mi_X9_play.1 (mi_C mi_X9_play) (mi_L mi_X9_play) (mi_R mi_X9_play) ∈ gwl ∧ Cond.initialized mi_X9_play.1.cls ∈ gwl ∧ mi_X9_play.1.cls ≠ "java/lang/invoke/MethodHandle" ∧ mi_X9_play.1.cls ≠ "java/lang/invoke/VarHandle" ∧ (parseMethodDescriptor mi_X9_play.1.desc).map (fun d => d.parameters.length) = some 2 := ⟨gwl_in3 172 rfl rfl, gwl_in1 1 rfl rfl, by decide +kernel, by decide +kernel, by decide +kernel⟩
set_option maxRecDepth 100000 in
theorem vt_X10_play : Cond.instanceMethod mi_X10_play.1 ∈ gwl ∧ Cond.selects mi_X10_play.1.cls mi_X10_play.1 mi_X10_play.1 ∈ gwl := ⟨gwl_in6 97 rfl rfl, gwl_in6 98 rfl rfl⟩
set_option maxRecDepth 100000 in
theorem cd_X10_play : Cond.code mi_X10_play.1 (mi_C mi_X10_play) (mi_L mi_X10_play) (mi_R mi_X10_play) ∈ gwl ∧ Cond.initialized mi_X10_play.1.cls ∈ gwl ∧ mi_X10_play.1.cls ≠ "java/lang/invoke/MethodHandle" ∧ mi_X10_play.1.cls ≠ "java/lang/invoke/VarHandle" ∧ (parseMethodDescriptor mi_X10_play.1.desc).map (fun d => d.parameters.length) = some 2 := ⟨gwl_in6 99 rfl rfl, gwl_in1 11 rfl rfl, by decide +kernel, by decide +kernel, by decide +kernel⟩
set_option maxRecDepth 100000 in
theorem vt_X9_would : Cond.instanceMethod mi_X9_would.1 ∈ gwl ∧ Cond.selects mi_X9_would.1.cls mi_X9_would.1 mi_X9_would.1 ∈ gwl := ⟨gwl_in3 197 rfl rfl, gwl_in3 198 rfl rfl⟩
set_option maxRecDepth 100000 in
theorem cd_X9_would : Cond.code mi_X9_would.1 (mi_C mi_X9_would) (mi_L mi_X9_would) (mi_R mi_X9_would) ∈ gwl ∧ Cond.initialized mi_X9_would.1.cls ∈ gwl ∧ mi_X9_would.1.cls ≠ "java/lang/invoke/MethodHandle" ∧ mi_X9_would.1.cls ≠ "java/lang/invoke/VarHandle" ∧ (parseMethodDescriptor mi_X9_would.1.desc).map (fun d => d.parameters.length) = some 2 := ⟨gwl_in3 199 rfl rfl, gwl_in1 1 rfl rfl, by decide +kernel, by decide +kernel, by decide +kernel⟩
set_option maxRecDepth 100000 in
theorem vt_X10_would : Cond.instanceMethod mi_X10_would.1 ∈ gwl ∧ Cond.selects mi_X10_would.1.cls mi_X10_would.1 mi_X10_would.1 ∈ gwl := ⟨gwl_in6 119 rfl rfl, gwl_in6 120 rfl rfl⟩
set_option maxRecDepth 100000 in
theorem cd_X10_would : Cond.code mi_X10_would.1 (mi_C mi_X10_would) (mi_L mi_X10_would) (mi_R mi_X10_would) ∈ gwl ∧ Cond.initialized mi_X10_would.1.cls ∈ gwl ∧ mi_X10_would.1.cls ≠ "java/lang/invoke/MethodHandle" ∧ mi_X10_would.1.cls ≠ "java/lang/invoke/VarHandle" ∧ (parseMethodDescriptor mi_X10_would.1.desc).map (fun d => d.parameters.length) = some 2 := ⟨gwl_in6 121 rfl rfl, gwl_in1 11 rfl rfl, by decide +kernel, by decide +kernel, by decide +kernel⟩
set_option maxRecDepth 100000 in
theorem vt_X9_key : Cond.instanceMethod mi_X9_key.1 ∈ gwl ∧ Cond.selects mi_X9_key.1.cls mi_X9_key.1 mi_X9_key.1 ∈ gwl := ⟨gwl_in3 201 rfl rfl, gwl_in3 202 rfl rfl⟩
set_option maxRecDepth 100000 in
theorem cd_X9_key : Cond.code mi_X9_key.1 (mi_C mi_X9_key) (mi_L mi_X9_key) (mi_R mi_X9_key) ∈ gwl ∧ Cond.initialized mi_X9_key.1.cls ∈ gwl ∧ mi_X9_key.1.cls ≠ "java/lang/invoke/MethodHandle" ∧ mi_X9_key.1.cls ≠ "java/lang/invoke/VarHandle" ∧ (parseMethodDescriptor mi_X9_key.1.desc).map (fun d => d.parameters.length) = some 2 := ⟨gwl_in3 203 rfl rfl, gwl_in1 1 rfl rfl, by decide +kernel, by decide +kernel, by decide +kernel⟩
set_option maxRecDepth 100000 in
theorem vt_X10_key : Cond.instanceMethod mi_X10_key.1 ∈ gwl ∧ Cond.selects mi_X10_key.1.cls mi_X10_key.1 mi_X10_key.1 ∈ gwl := ⟨gwl_in6 123 rfl rfl, gwl_in6 124 rfl rfl⟩
set_option maxRecDepth 100000 in
theorem cd_X10_key : Cond.code mi_X10_key.1 (mi_C mi_X10_key) (mi_L mi_X10_key) (mi_R mi_X10_key) ∈ gwl ∧ Cond.initialized mi_X10_key.1.cls ∈ gwl ∧ mi_X10_key.1.cls ≠ "java/lang/invoke/MethodHandle" ∧ mi_X10_key.1.cls ≠ "java/lang/invoke/VarHandle" ∧ (parseMethodDescriptor mi_X10_key.1.desc).map (fun d => d.parameters.length) = some 2 := ⟨gwl_in6 125 rfl rfl, gwl_in1 11 rfl rfl, by decide +kernel, by decide +kernel, by decide +kernel⟩
set_option maxRecDepth 100000 in
theorem vt_X9_set : Cond.instanceMethod mi_X9_set.1 ∈ gwl ∧ Cond.selects mi_X9_set.1.cls mi_X9_set.1 mi_X9_set.1 ∈ gwl := ⟨gwl_in3 206 rfl rfl, gwl_in3 207 rfl rfl⟩
set_option maxRecDepth 100000 in
theorem cd_X9_set : Cond.code mi_X9_set.1 (mi_C mi_X9_set) (mi_L mi_X9_set) (mi_R mi_X9_set) ∈ gwl ∧ Cond.initialized mi_X9_set.1.cls ∈ gwl ∧ mi_X9_set.1.cls ≠ "java/lang/invoke/MethodHandle" ∧ mi_X9_set.1.cls ≠ "java/lang/invoke/VarHandle" ∧ (parseMethodDescriptor mi_X9_set.1.desc).map (fun d => d.parameters.length) = some 5 := ⟨gwl_in3 208 rfl rfl, gwl_in1 1 rfl rfl, by decide +kernel, by decide +kernel, by decide +kernel⟩
set_option maxRecDepth 100000 in
theorem vt_X10_set : Cond.instanceMethod mi_X10_set.1 ∈ gwl ∧ Cond.selects mi_X10_set.1.cls mi_X10_set.1 mi_X10_set.1 ∈ gwl := ⟨gwl_in6 127 rfl rfl, gwl_in6 128 rfl rfl⟩
set_option maxRecDepth 100000 in
theorem cd_X10_set : Cond.code mi_X10_set.1 (mi_C mi_X10_set) (mi_L mi_X10_set) (mi_R mi_X10_set) ∈ gwl ∧ Cond.initialized mi_X10_set.1.cls ∈ gwl ∧ mi_X10_set.1.cls ≠ "java/lang/invoke/MethodHandle" ∧ mi_X10_set.1.cls ≠ "java/lang/invoke/VarHandle" ∧ (parseMethodDescriptor mi_X10_set.1.desc).map (fun d => d.parameters.length) = some 5 := ⟨gwl_in6 129 rfl rfl, gwl_in1 11 rfl rfl, by decide +kernel, by decide +kernel, by decide +kernel⟩
set_option maxRecDepth 100000 in
theorem vt_X9_blame : Cond.instanceMethod mi_X9_blame.1 ∈ gwl ∧ Cond.selects mi_X9_blame.1.cls mi_X9_blame.1 mi_X9_blame.1 ∈ gwl := ⟨gwl_in4 46 rfl rfl, gwl_in4 47 rfl rfl⟩
set_option maxRecDepth 100000 in
theorem cd_X9_blame : Cond.code mi_X9_blame.1 (mi_C mi_X9_blame) (mi_L mi_X9_blame) (mi_R mi_X9_blame) ∈ gwl ∧ Cond.initialized mi_X9_blame.1.cls ∈ gwl ∧ mi_X9_blame.1.cls ≠ "java/lang/invoke/MethodHandle" ∧ mi_X9_blame.1.cls ≠ "java/lang/invoke/VarHandle" ∧ (parseMethodDescriptor mi_X9_blame.1.desc).map (fun d => d.parameters.length) = some 7 := ⟨gwl_in4 48 rfl rfl, gwl_in1 1 rfl rfl, by decide +kernel, by decide +kernel, by decide +kernel⟩
set_option maxRecDepth 100000 in
theorem vt_X10_blame : Cond.instanceMethod mi_X10_blame.1 ∈ gwl ∧ Cond.selects mi_X10_blame.1.cls mi_X10_blame.1 mi_X10_blame.1 ∈ gwl := ⟨gwl_in6 158 rfl rfl, gwl_in6 159 rfl rfl⟩
set_option maxRecDepth 100000 in
theorem cd_X10_blame : Cond.code mi_X10_blame.1 (mi_C mi_X10_blame) (mi_L mi_X10_blame) (mi_R mi_X10_blame) ∈ gwl ∧ Cond.initialized mi_X10_blame.1.cls ∈ gwl ∧ mi_X10_blame.1.cls ≠ "java/lang/invoke/MethodHandle" ∧ mi_X10_blame.1.cls ≠ "java/lang/invoke/VarHandle" ∧ (parseMethodDescriptor mi_X10_blame.1.desc).map (fun d => d.parameters.length) = some 7 := ⟨gwl_in6 160 rfl rfl, gwl_in1 11 rfl rfl, by decide +kernel, by decide +kernel, by decide +kernel⟩
set_option maxRecDepth 100000 in
theorem vt_X9_boat : Cond.instanceMethod mi_X9_boat.1 ∈ gwl ∧ Cond.selects mi_X9_boat.1.cls mi_X9_boat.1 mi_X9_boat.1 ∈ gwl := ⟨gwl_in4 115 rfl rfl, gwl_in4 116 rfl rfl⟩
set_option maxRecDepth 100000 in
theorem cd_X9_boat : Cond.code mi_X9_boat.1 (mi_C mi_X9_boat) (mi_L mi_X9_boat) (mi_R mi_X9_boat) ∈ gwl ∧ Cond.initialized mi_X9_boat.1.cls ∈ gwl ∧ mi_X9_boat.1.cls ≠ "java/lang/invoke/MethodHandle" ∧ mi_X9_boat.1.cls ≠ "java/lang/invoke/VarHandle" ∧ (parseMethodDescriptor mi_X9_boat.1.desc).map (fun d => d.parameters.length) = some 2 := ⟨gwl_in4 117 rfl rfl, gwl_in1 1 rfl rfl, by decide +kernel, by decide +kernel, by decide +kernel⟩
set_option maxRecDepth 100000 in
theorem vt_X10_boat : Cond.instanceMethod mi_X10_boat.1 ∈ gwl ∧ Cond.selects mi_X10_boat.1.cls mi_X10_boat.1 mi_X10_boat.1 ∈ gwl := ⟨gwl_in6 176 rfl rfl, gwl_in6 177 rfl rfl⟩
set_option maxRecDepth 100000 in
theorem cd_X10_boat : Cond.code mi_X10_boat.1 (mi_C mi_X10_boat) (mi_L mi_X10_boat) (mi_R mi_X10_boat) ∈ gwl ∧ Cond.initialized mi_X10_boat.1.cls ∈ gwl ∧ mi_X10_boat.1.cls ≠ "java/lang/invoke/MethodHandle" ∧ mi_X10_boat.1.cls ≠ "java/lang/invoke/VarHandle" ∧ (parseMethodDescriptor mi_X10_boat.1.desc).map (fun d => d.parameters.length) = some 2 := ⟨gwl_in6 178 rfl rfl, gwl_in1 11 rfl rfl, by decide +kernel, by decide +kernel, by decide +kernel⟩
set_option maxRecDepth 100000 in
theorem vt_X9_bend : Cond.instanceMethod mi_X9_bend.1 ∈ gwl ∧ Cond.selects mi_X9_bend.1.cls mi_X9_bend.1 mi_X9_bend.1 ∈ gwl := ⟨gwl_in4 126 rfl rfl, gwl_in4 127 rfl rfl⟩
set_option maxRecDepth 100000 in
theorem cd_X9_bend : Cond.code mi_X9_bend.1 (mi_C mi_X9_bend) (mi_L mi_X9_bend) (mi_R mi_X9_bend) ∈ gwl ∧ Cond.initialized mi_X9_bend.1.cls ∈ gwl ∧ mi_X9_bend.1.cls ≠ "java/lang/invoke/MethodHandle" ∧ mi_X9_bend.1.cls ≠ "java/lang/invoke/VarHandle" ∧ (parseMethodDescriptor mi_X9_bend.1.desc).map (fun d => d.parameters.length) = some 2 := ⟨gwl_in4 128 rfl rfl, gwl_in1 1 rfl rfl, by decide +kernel, by decide +kernel, by decide +kernel⟩
set_option maxRecDepth 100000 in
theorem vt_X10_bend : Cond.instanceMethod mi_X10_bend.1 ∈ gwl ∧ Cond.selects mi_X10_bend.1.cls mi_X10_bend.1 mi_X10_bend.1 ∈ gwl := ⟨gwl_in6 182 rfl rfl, gwl_in6 183 rfl rfl⟩
set_option maxRecDepth 100000 in
theorem cd_X10_bend : Cond.code mi_X10_bend.1 (mi_C mi_X10_bend) (mi_L mi_X10_bend) (mi_R mi_X10_bend) ∈ gwl ∧ Cond.initialized mi_X10_bend.1.cls ∈ gwl ∧ mi_X10_bend.1.cls ≠ "java/lang/invoke/MethodHandle" ∧ mi_X10_bend.1.cls ≠ "java/lang/invoke/VarHandle" ∧ (parseMethodDescriptor mi_X10_bend.1.desc).map (fun d => d.parameters.length) = some 2 := ⟨gwl_in6 184 rfl rfl, gwl_in1 11 rfl rfl, by decide +kernel, by decide +kernel, by decide +kernel⟩
set_option maxRecDepth 100000 in
theorem vt_X9_speed : Cond.instanceMethod mi_X9_speed.1 ∈ gwl ∧ Cond.selects mi_X9_speed.1.cls mi_X9_speed.1 mi_X9_speed.1 ∈ gwl := ⟨gwl_in4 138 rfl rfl, gwl_in4 139 rfl rfl⟩
set_option maxRecDepth 100000 in
theorem cd_X9_speed : Cond.code mi_X9_speed.1 (mi_C mi_X9_speed) (mi_L mi_X9_speed) (mi_R mi_X9_speed) ∈ gwl ∧ Cond.initialized mi_X9_speed.1.cls ∈ gwl ∧ mi_X9_speed.1.cls ≠ "java/lang/invoke/MethodHandle" ∧ mi_X9_speed.1.cls ≠ "java/lang/invoke/VarHandle" ∧ (parseMethodDescriptor mi_X9_speed.1.desc).map (fun d => d.parameters.length) = some 1 := ⟨gwl_in4 140 rfl rfl, gwl_in1 1 rfl rfl, by decide +kernel, by decide +kernel, by decide +kernel⟩
set_option maxRecDepth 100000 in
theorem vt_X10_speed : Cond.instanceMethod mi_X10_speed.1 ∈ gwl ∧ Cond.selects mi_X10_speed.1.cls mi_X10_speed.1 mi_X10_speed.1 ∈ gwl := ⟨gwl_in6 186 rfl rfl, gwl_in6 187 rfl rfl⟩
set_option maxRecDepth 100000 in
theorem cd_X10_speed : Cond.code mi_X10_speed.1 (mi_C mi_X10_speed) (mi_L mi_X10_speed) (mi_R mi_X10_speed) ∈ gwl ∧ Cond.initialized mi_X10_speed.1.cls ∈ gwl ∧ mi_X10_speed.1.cls ≠ "java/lang/invoke/MethodHandle" ∧ mi_X10_speed.1.cls ≠ "java/lang/invoke/VarHandle" ∧ (parseMethodDescriptor mi_X10_speed.1.desc).map (fun d => d.parameters.length) = some 1 := ⟨gwl_in6 188 rfl rfl, gwl_in1 11 rfl rfl, by decide +kernel, by decide +kernel, by decide +kernel⟩
set_option maxRecDepth 100000 in
theorem vt_X9_far : Cond.instanceMethod mi_X9_far.1 ∈ gwl ∧ Cond.selects mi_X9_far.1.cls mi_X9_far.1 mi_X9_far.1 ∈ gwl := ⟨gwl_in4 142 rfl rfl, gwl_in4 143 rfl rfl⟩
set_option maxRecDepth 100000 in
theorem cd_X9_far : Cond.code mi_X9_far.1 (mi_C mi_X9_far) (mi_L mi_X9_far) (mi_R mi_X9_far) ∈ gwl ∧ Cond.initialized mi_X9_far.1.cls ∈ gwl ∧ mi_X9_far.1.cls ≠ "java/lang/invoke/MethodHandle" ∧ mi_X9_far.1.cls ≠ "java/lang/invoke/VarHandle" ∧ (parseMethodDescriptor mi_X9_far.1.desc).map (fun d => d.parameters.length) = some 2 := ⟨gwl_in4 144 rfl rfl, gwl_in1 1 rfl rfl, by decide +kernel, by decide +kernel, by decide +kernel⟩
set_option maxRecDepth 100000 in
theorem vt_X10_far : Cond.instanceMethod mi_X10_far.1 ∈ gwl ∧ Cond.selects mi_X10_far.1.cls mi_X10_far.1 mi_X10_far.1 ∈ gwl := ⟨gwl_in6 190 rfl rfl, gwl_in6 191 rfl rfl⟩
set_option maxRecDepth 100000 in
theorem cd_X10_far : Cond.code mi_X10_far.1 (mi_C mi_X10_far) (mi_L mi_X10_far) (mi_R mi_X10_far) ∈ gwl ∧ Cond.initialized mi_X10_far.1.cls ∈ gwl ∧ mi_X10_far.1.cls ≠ "java/lang/invoke/MethodHandle" ∧ mi_X10_far.1.cls ≠ "java/lang/invoke/VarHandle" ∧ (parseMethodDescriptor mi_X10_far.1.desc).map (fun d => d.parameters.length) = some 2 := ⟨gwl_in6 192 rfl rfl, gwl_in1 11 rfl rfl, by decide +kernel, by decide +kernel, by decide +kernel⟩
set_option maxRecDepth 100000 in
theorem vt_X9_heard : Cond.instanceMethod mi_X9_heard.1 ∈ gwl ∧ Cond.selects mi_X9_heard.1.cls mi_X9_heard.1 mi_X9_heard.1 ∈ gwl := ⟨gwl_in4 152 rfl rfl, gwl_in4 153 rfl rfl⟩
set_option maxRecDepth 100000 in
theorem cd_X9_heard : Cond.code mi_X9_heard.1 (mi_C mi_X9_heard) (mi_L mi_X9_heard) (mi_R mi_X9_heard) ∈ gwl ∧ Cond.initialized mi_X9_heard.1.cls ∈ gwl ∧ mi_X9_heard.1.cls ≠ "java/lang/invoke/MethodHandle" ∧ mi_X9_heard.1.cls ≠ "java/lang/invoke/VarHandle" ∧ (parseMethodDescriptor mi_X9_heard.1.desc).map (fun d => d.parameters.length) = some 3 := ⟨gwl_in4 154 rfl rfl, gwl_in1 1 rfl rfl, by decide +kernel, by decide +kernel, by decide +kernel⟩
set_option maxRecDepth 100000 in
theorem vt_X10_heard : Cond.instanceMethod mi_X10_heard.1 ∈ gwl ∧ Cond.selects mi_X10_heard.1.cls mi_X10_heard.1 mi_X10_heard.1 ∈ gwl := ⟨gwl_in6 198 rfl rfl, gwl_in6 199 rfl rfl⟩
set_option maxRecDepth 100000 in
theorem cd_X10_heard : Cond.code mi_X10_heard.1 (mi_C mi_X10_heard) (mi_L mi_X10_heard) (mi_R mi_X10_heard) ∈ gwl ∧ Cond.initialized mi_X10_heard.1.cls ∈ gwl ∧ mi_X10_heard.1.cls ≠ "java/lang/invoke/MethodHandle" ∧ mi_X10_heard.1.cls ≠ "java/lang/invoke/VarHandle" ∧ (parseMethodDescriptor mi_X10_heard.1.desc).map (fun d => d.parameters.length) = some 3 := ⟨gwl_in6 200 rfl rfl, gwl_in1 11 rfl rfl, by decide +kernel, by decide +kernel, by decide +kernel⟩
set_option maxRecDepth 100000 in
theorem vt_X9_step : Cond.instanceMethod mi_X9_step.1 ∈ gwl ∧ Cond.selects mi_X9_step.1.cls mi_X9_step.1 mi_X9_step.1 ∈ gwl := ⟨gwl_in4 165 rfl rfl, gwl_in4 166 rfl rfl⟩
set_option maxRecDepth 100000 in
theorem cd_X9_step : Cond.code mi_X9_step.1 (mi_C mi_X9_step) (mi_L mi_X9_step) (mi_R mi_X9_step) ∈ gwl ∧ Cond.initialized mi_X9_step.1.cls ∈ gwl ∧ mi_X9_step.1.cls ≠ "java/lang/invoke/MethodHandle" ∧ mi_X9_step.1.cls ≠ "java/lang/invoke/VarHandle" ∧ (parseMethodDescriptor mi_X9_step.1.desc).map (fun d => d.parameters.length) = some 3 := ⟨gwl_in4 167 rfl rfl, gwl_in1 1 rfl rfl, by decide +kernel, by decide +kernel, by decide +kernel⟩
set_option maxRecDepth 100000 in
theorem vt_X10_step : Cond.instanceMethod mi_X10_step.1 ∈ gwl ∧ Cond.selects mi_X10_step.1.cls mi_X10_step.1 mi_X10_step.1 ∈ gwl := ⟨gwl_in6 206 rfl rfl, gwl_in6 207 rfl rfl⟩
set_option maxRecDepth 100000 in
theorem cd_X10_step : Cond.code mi_X10_step.1 (mi_C mi_X10_step) (mi_L mi_X10_step) (mi_R mi_X10_step) ∈ gwl ∧ Cond.initialized mi_X10_step.1.cls ∈ gwl ∧ mi_X10_step.1.cls ≠ "java/lang/invoke/MethodHandle" ∧ mi_X10_step.1.cls ≠ "java/lang/invoke/VarHandle" ∧ (parseMethodDescriptor mi_X10_step.1.desc).map (fun d => d.parameters.length) = some 3 := ⟨gwl_in6 208 rfl rfl, gwl_in1 11 rfl rfl, by decide +kernel, by decide +kernel, by decide +kernel⟩
set_option maxRecDepth 100000 in
theorem vt_X9_undo : Cond.instanceMethod mi_X9_undo.1 ∈ gwl ∧ Cond.selects mi_X9_undo.1.cls mi_X9_undo.1 mi_X9_undo.1 ∈ gwl := ⟨gwl_in4 174 rfl rfl, gwl_in4 175 rfl rfl⟩
set_option maxRecDepth 100000 in
theorem cd_X9_undo : Cond.code mi_X9_undo.1 (mi_C mi_X9_undo) (mi_L mi_X9_undo) (mi_R mi_X9_undo) ∈ gwl ∧ Cond.initialized mi_X9_undo.1.cls ∈ gwl ∧ mi_X9_undo.1.cls ≠ "java/lang/invoke/MethodHandle" ∧ mi_X9_undo.1.cls ≠ "java/lang/invoke/VarHandle" ∧ (parseMethodDescriptor mi_X9_undo.1.desc).map (fun d => d.parameters.length) = some 0 := ⟨gwl_in4 176 rfl rfl, gwl_in1 1 rfl rfl, by decide +kernel, by decide +kernel, by decide +kernel⟩
set_option maxRecDepth 100000 in
theorem vt_X10_undo : Cond.instanceMethod mi_X10_undo.1 ∈ gwl ∧ Cond.selects mi_X10_undo.1.cls mi_X10_undo.1 mi_X10_undo.1 ∈ gwl := ⟨gwl_in5 149 rfl rfl, gwl_in5 150 rfl rfl⟩
set_option maxRecDepth 100000 in
theorem cd_X10_undo : Cond.code mi_X10_undo.1 (mi_C mi_X10_undo) (mi_L mi_X10_undo) (mi_R mi_X10_undo) ∈ gwl ∧ Cond.initialized mi_X10_undo.1.cls ∈ gwl ∧ mi_X10_undo.1.cls ≠ "java/lang/invoke/MethodHandle" ∧ mi_X10_undo.1.cls ≠ "java/lang/invoke/VarHandle" ∧ (parseMethodDescriptor mi_X10_undo.1.desc).map (fun d => d.parameters.length) = some 0 := ⟨gwl_in5 151 rfl rfl, gwl_in1 11 rfl rfl, by decide +kernel, by decide +kernel, by decide +kernel⟩
set_option maxRecDepth 100000 in
theorem vt_X9_sheet : Cond.instanceMethod mi_X9_sheet.1 ∈ gwl ∧ Cond.selects mi_X9_sheet.1.cls mi_X9_sheet.1 mi_X9_sheet.1 ∈ gwl := ⟨gwl_in4 182 rfl rfl, gwl_in4 183 rfl rfl⟩
set_option maxRecDepth 100000 in
theorem cd_X9_sheet : Cond.code mi_X9_sheet.1 (mi_C mi_X9_sheet) (mi_L mi_X9_sheet) (mi_R mi_X9_sheet) ∈ gwl ∧ Cond.initialized mi_X9_sheet.1.cls ∈ gwl ∧ mi_X9_sheet.1.cls ≠ "java/lang/invoke/MethodHandle" ∧ mi_X9_sheet.1.cls ≠ "java/lang/invoke/VarHandle" ∧ (parseMethodDescriptor mi_X9_sheet.1.desc).map (fun d => d.parameters.length) = some 3 := ⟨gwl_in4 184 rfl rfl, gwl_in1 1 rfl rfl, by decide +kernel, by decide +kernel, by decide +kernel⟩
set_option maxRecDepth 100000 in
theorem vt_X10_sheet : Cond.instanceMethod mi_X10_sheet.1 ∈ gwl ∧ Cond.selects mi_X10_sheet.1.cls mi_X10_sheet.1 mi_X10_sheet.1 ∈ gwl := ⟨gwl_in6 210 rfl rfl, gwl_in6 211 rfl rfl⟩
set_option maxRecDepth 100000 in
theorem cd_X10_sheet : Cond.code mi_X10_sheet.1 (mi_C mi_X10_sheet) (mi_L mi_X10_sheet) (mi_R mi_X10_sheet) ∈ gwl ∧ Cond.initialized mi_X10_sheet.1.cls ∈ gwl ∧ mi_X10_sheet.1.cls ≠ "java/lang/invoke/MethodHandle" ∧ mi_X10_sheet.1.cls ≠ "java/lang/invoke/VarHandle" ∧ (parseMethodDescriptor mi_X10_sheet.1.desc).map (fun d => d.parameters.length) = some 3 := ⟨gwl_in6 212 rfl rfl, gwl_in1 11 rfl rfl, by decide +kernel, by decide +kernel, by decide +kernel⟩
set_option maxRecDepth 100000 in
theorem vt_X9_lay : Cond.instanceMethod mi_X9_lay.1 ∈ gwl ∧ Cond.selects mi_X9_lay.1.cls mi_X9_lay.1 mi_X9_lay.1 ∈ gwl := ⟨gwl_in4 191 rfl rfl, gwl_in4 192 rfl rfl⟩
set_option maxRecDepth 100000 in
theorem cd_X9_lay : Cond.code mi_X9_lay.1 (mi_C mi_X9_lay) (mi_L mi_X9_lay) (mi_R mi_X9_lay) ∈ gwl ∧ Cond.initialized mi_X9_lay.1.cls ∈ gwl ∧ mi_X9_lay.1.cls ≠ "java/lang/invoke/MethodHandle" ∧ mi_X9_lay.1.cls ≠ "java/lang/invoke/VarHandle" ∧ (parseMethodDescriptor mi_X9_lay.1.desc).map (fun d => d.parameters.length) = some 3 := ⟨gwl_in4 193 rfl rfl, gwl_in1 1 rfl rfl, by decide +kernel, by decide +kernel, by decide +kernel⟩
set_option maxRecDepth 100000 in
theorem vt_X10_lay : Cond.instanceMethod mi_X10_lay.1 ∈ gwl ∧ Cond.selects mi_X10_lay.1.cls mi_X10_lay.1 mi_X10_lay.1 ∈ gwl := ⟨gwl_in6 214 rfl rfl, gwl_in6 215 rfl rfl⟩
set_option maxRecDepth 100000 in
theorem cd_X10_lay : Cond.code mi_X10_lay.1 (mi_C mi_X10_lay) (mi_L mi_X10_lay) (mi_R mi_X10_lay) ∈ gwl ∧ Cond.initialized mi_X10_lay.1.cls ∈ gwl ∧ mi_X10_lay.1.cls ≠ "java/lang/invoke/MethodHandle" ∧ mi_X10_lay.1.cls ≠ "java/lang/invoke/VarHandle" ∧ (parseMethodDescriptor mi_X10_lay.1.desc).map (fun d => d.parameters.length) = some 3 := ⟨gwl_in6 216 rfl rfl, gwl_in1 11 rfl rfl, by decide +kernel, by decide +kernel, by decide +kernel⟩
set_option maxRecDepth 100000 in
theorem vt_X9_scan : Cond.instanceMethod mi_X9_scan.1 ∈ gwl ∧ Cond.selects mi_X9_scan.1.cls mi_X9_scan.1 mi_X9_scan.1 ∈ gwl := ⟨gwl_in4 200 rfl rfl, gwl_in4 201 rfl rfl⟩
set_option maxRecDepth 100000 in
theorem cd_X9_scan : Cond.code mi_X9_scan.1 (mi_C mi_X9_scan) (mi_L mi_X9_scan) (mi_R mi_X9_scan) ∈ gwl ∧ Cond.initialized mi_X9_scan.1.cls ∈ gwl ∧ mi_X9_scan.1.cls ≠ "java/lang/invoke/MethodHandle" ∧ mi_X9_scan.1.cls ≠ "java/lang/invoke/VarHandle" ∧ (parseMethodDescriptor mi_X9_scan.1.desc).map (fun d => d.parameters.length) = some 4 := ⟨gwl_in4 202 rfl rfl, gwl_in1 1 rfl rfl, by decide +kernel, by decide +kernel, by decide +kernel⟩
set_option maxRecDepth 100000 in
theorem vt_X10_scan : Cond.instanceMethod mi_X10_scan.1 ∈ gwl ∧ Cond.selects mi_X10_scan.1.cls mi_X10_scan.1 mi_X10_scan.1 ∈ gwl := ⟨gwl_in6 218 rfl rfl, gwl_in6 219 rfl rfl⟩
set_option maxRecDepth 100000 in
theorem cd_X10_scan : Cond.code mi_X10_scan.1 (mi_C mi_X10_scan) (mi_L mi_X10_scan) (mi_R mi_X10_scan) ∈ gwl ∧ Cond.initialized mi_X10_scan.1.cls ∈ gwl ∧ mi_X10_scan.1.cls ≠ "java/lang/invoke/MethodHandle" ∧ mi_X10_scan.1.cls ≠ "java/lang/invoke/VarHandle" ∧ (parseMethodDescriptor mi_X10_scan.1.desc).map (fun d => d.parameters.length) = some 4 := ⟨gwl_in6 220 rfl rfl, gwl_in1 11 rfl rfl, by decide +kernel, by decide +kernel, by decide +kernel⟩
set_option maxRecDepth 100000 in
theorem vt_X9_count : Cond.instanceMethod mi_X9_count.1 ∈ gwl ∧ Cond.selects mi_X9_count.1.cls mi_X9_count.1 mi_X9_count.1 ∈ gwl := ⟨gwl_in4 208 rfl rfl, gwl_in4 209 rfl rfl⟩
set_option maxRecDepth 100000 in
theorem cd_X9_count : Cond.code mi_X9_count.1 (mi_C mi_X9_count) (mi_L mi_X9_count) (mi_R mi_X9_count) ∈ gwl ∧ Cond.initialized mi_X9_count.1.cls ∈ gwl ∧ mi_X9_count.1.cls ≠ "java/lang/invoke/MethodHandle" ∧ mi_X9_count.1.cls ≠ "java/lang/invoke/VarHandle" ∧ (parseMethodDescriptor mi_X9_count.1.desc).map (fun d => d.parameters.length) = some 1 := ⟨gwl_in4 210 rfl rfl, gwl_in1 1 rfl rfl, by decide +kernel, by decide +kernel, by decide +kernel⟩
set_option maxRecDepth 100000 in
theorem vt_X10_count : Cond.instanceMethod mi_X10_count.1 ∈ gwl ∧ Cond.selects mi_X10_count.1.cls mi_X10_count.1 mi_X10_count.1 ∈ gwl := ⟨gwl_in6 225 rfl rfl, gwl_in6 226 rfl rfl⟩
set_option maxRecDepth 100000 in
theorem cd_X10_count : Cond.code mi_X10_count.1 (mi_C mi_X10_count) (mi_L mi_X10_count) (mi_R mi_X10_count) ∈ gwl ∧ Cond.initialized mi_X10_count.1.cls ∈ gwl ∧ mi_X10_count.1.cls ≠ "java/lang/invoke/MethodHandle" ∧ mi_X10_count.1.cls ≠ "java/lang/invoke/VarHandle" ∧ (parseMethodDescriptor mi_X10_count.1.desc).map (fun d => d.parameters.length) = some 1 := ⟨gwl_in6 227 rfl rfl, gwl_in1 11 rfl rfl, by decide +kernel, by decide +kernel, by decide +kernel⟩
set_option maxRecDepth 100000 in
theorem oi_X9_1 : Cond.methodLink RX9 1 objectInit ∈ gwl := gwl_in1 21 rfl rfl
theorem lk_X9_9 : ev_ln RX9 9 mi_X1_init 0 := ⟨⟨"SteamTunes", List.mem_of_getElem? (i := 0) (by decide +kernel)⟩, cd_X1_init⟩
theorem lk_X9_21 : ev_ln RX9 21 mi_X8_init 0 := ⟨⟨"SteamTunes", List.mem_of_getElem? (i := 1) (by decide +kernel)⟩, cd_X8_init⟩
theorem lk_X9_28 : ev_ln RX9 28 mi_X0_init 0 := ⟨⟨"SteamTunes", List.mem_of_getElem? (i := 2) (by decide +kernel)⟩, cd_X0_init⟩
theorem lk_X9_35 : ev_ln RX9 35 mi_X2_init 0 := ⟨⟨"SteamTunes", List.mem_of_getElem? (i := 3) (by decide +kernel)⟩, cd_X2_init⟩
theorem lk_X9_42 : ev_ln RX9 42 mi_X7_init 0 := ⟨⟨"SteamTunes", List.mem_of_getElem? (i := 4) (by decide +kernel)⟩, cd_X7_init⟩
theorem lk_X9_49 : ev_ln RX9 49 mi_X4_init 0 := ⟨⟨"SteamTunes", List.mem_of_getElem? (i := 5) (by decide +kernel)⟩, cd_X4_init⟩
theorem lk_X9_56 : ev_ln RX9 56 mi_X6_init 0 := ⟨⟨"SteamTunes", List.mem_of_getElem? (i := 6) (by decide +kernel)⟩, cd_X6_init⟩
theorem lk_X9_63 : ev_ln RX9 63 mi_X3_init 0 := ⟨⟨"SteamTunes", List.mem_of_getElem? (i := 7) (by decide +kernel)⟩, cd_X3_init⟩
theorem lk_X9_70 : ev_ln RX9 70 mi_X5_init 0 := ⟨⟨"SteamTunes", List.mem_of_getElem? (i := 8) (by decide +kernel)⟩, cd_X5_init⟩
set_option maxRecDepth 100000 in
theorem lk_X9_75 : ev_lk RX9 75 mi_X9_isWithin 3 := ⟨gwl_in2 153 rfl rfl, cd_X9_isWithin⟩
set_option maxRecDepth 100000 in
theorem lk_X9_79 : ev_lk RX9 79 mi_X0_keep 2 := ⟨gwl_in2 156 rfl rfl, cd_X0_keep⟩
set_option maxRecDepth 100000 in
theorem lk_X9_90 : ev_lk RX9 90 mi_J9_min_7cf53 2 := ⟨gwl_in2 170 rfl rfl, cd_J9_min_7cf53⟩
set_option maxRecDepth 100000 in
theorem lk_X9_108 : ev_lk RX9 108 mi_X8_drawnBy 2 := ⟨gwl_in2 183 rfl rfl, cd_X8_drawnBy⟩
set_option maxRecDepth 100000 in
theorem lk_X9_111 : ev_lk RX9 111 mi_X8_hasAll 1 := ⟨gwl_in2 191 rfl rfl, cd_X8_hasAll⟩
set_option maxRecDepth 100000 in
theorem lk_X9_115 : ev_lk RX9 115 mi_X8_strayOf 2 := ⟨gwl_in2 199 rfl rfl, cd_X8_strayOf⟩
set_option maxRecDepth 100000 in
theorem lk_X9_118 : ev_lk RX9 118 mi_X1_pass 1 := ⟨gwl_in2 220 rfl rfl, cd_X1_pass⟩
set_option maxRecDepth 100000 in
theorem lk_X9_122 : ev_lk RX9 122 mi_X8_add 4 := ⟨gwl_in2 229 rfl rfl, cd_X8_add⟩
set_option maxRecDepth 100000 in
theorem lk_X9_126 : ev_lk RX9 126 mi_X8_has 1 := ⟨gwl_in2 238 rfl rfl, cd_X8_has⟩
set_option maxRecDepth 100000 in
theorem lk_X9_149 : ev_lk RX9 149 mi_X8_offAt 2 := ⟨gwl_in3 18 rfl rfl, cd_X8_offAt⟩
set_option maxRecDepth 100000 in
theorem lk_X9_152 : ev_lk RX9 152 mi_X8_isNear 3 := ⟨gwl_in3 23 rfl rfl, cd_X8_isNear⟩
set_option maxRecDepth 100000 in
theorem lk_X9_155 : ev_lk RX9 155 mi_X8_bringNear 1 := ⟨gwl_in3 31 rfl rfl, cd_X8_bringNear⟩
set_option maxRecDepth 100000 in
theorem lk_X9_161 : ev_lk RX9 161 mi_X8_exactAt 1 := ⟨gwl_in3 36 rfl rfl, cd_X8_exactAt⟩
set_option maxRecDepth 100000 in
theorem lk_X9_165 : ev_lk RX9 165 mi_X8_all 0 := ⟨gwl_in3 44 rfl rfl, cd_X8_all⟩
set_option maxRecDepth 100000 in
theorem lk_X9_169 : ev_lk RX9 169 mi_X2_append 1 := ⟨gwl_in3 49 rfl rfl, cd_X2_append⟩
set_option maxRecDepth 100000 in
theorem lk_X9_177 : ev_lk RX9 177 mi_X2_readAll 0 := ⟨gwl_in3 61 rfl rfl, cd_X2_readAll⟩
set_option maxRecDepth 100000 in
theorem lk_X9_192 : ev_lk RX9 192 mi_X7_add 2 := ⟨gwl_in3 127 rfl rfl, cd_X7_add⟩
set_option maxRecDepth 100000 in
theorem lk_X9_195 : ev_lk RX9 195 mi_X7_has 1 := ⟨gwl_in3 140 rfl rfl, cd_X7_has⟩
set_option maxRecDepth 100000 in
theorem lk_X9_198 : ev_lk RX9 198 mi_X7_sounding 1 := ⟨gwl_in3 144 rfl rfl, cd_X7_sounding⟩
set_option maxRecDepth 100000 in
theorem lk_X9_201 : ev_lk RX9 201 mi_X7_whistlesOf 1 := ⟨gwl_in3 154 rfl rfl, cd_X7_whistlesOf⟩
set_option maxRecDepth 100000 in
theorem lk_X9_204 : ev_lk RX9 204 mi_X9_leastOf 1 := ⟨gwl_in3 158 rfl rfl, cd_X9_leastOf⟩
set_option maxRecDepth 100000 in
theorem lk_X9_207 : ev_lk RX9 207 mi_X9_greatestOf 1 := ⟨gwl_in3 162 rfl rfl, cd_X9_greatestOf⟩
set_option maxRecDepth 100000 in
theorem lk_X9_210 : ev_lk RX9 210 mi_X9_isBeat 3 := ⟨gwl_in3 165 rfl rfl, cd_X9_isBeat⟩
set_option maxRecDepth 100000 in
theorem lk_X9_217 : ev_lk RX9 217 mi_X9_tryOut 2 := ⟨gwl_in3 173 rfl rfl, cd_X9_tryOut⟩
set_option maxRecDepth 100000 in
theorem lk_X9_220 : ev_lk RX9 220 mi_X1_copyFrom 1 := ⟨gwl_in3 187 rfl rfl, cd_X1_copyFrom⟩
set_option maxRecDepth 100000 in
theorem lk_X9_224 : ev_lk RX9 224 mi_J9_abs_0f7a4 1 := ⟨gwl_in3 204 rfl rfl, cd_J9_abs_0f7a4⟩
set_option maxRecDepth 100000 in
theorem lk_X9_227 : ev_lk RX9 227 mi_X9_isKey 1 := ⟨gwl_in3 177 rfl rfl, cd_X9_isKey⟩
set_option maxRecDepth 100000 in
theorem lk_X9_230 : ev_lk RX9 230 mi_X7_goes 3 := ⟨gwl_in3 180 rfl rfl, cd_X7_goes⟩
set_option maxRecDepth 100000 in
theorem lk_X9_236 : ev_lk RX9 236 mi_X4_isFor 5 := ⟨gwl_in3 209 rfl rfl, cd_X4_isFor⟩
set_option maxRecDepth 100000 in
theorem lk_X9_240 : ev_lk RX9 240 mi_X4_takeTune 3 := ⟨gwl_in3 213 rfl rfl, cd_X4_takeTune⟩
set_option maxRecDepth 100000 in
theorem lk_X9_244 : ev_lk RX9 244 mi_X4_solve 4 := ⟨gwl_in3 218 rfl rfl, cd_X4_solve⟩
set_option maxRecDepth 100000 in
theorem lk_X9_248 : ev_lk RX9 248 mi_X4_remember 5 := ⟨gwl_in4 37 rfl rfl, cd_X4_remember⟩
set_option maxRecDepth 100000 in
theorem lk_X9_252 : ev_lk RX9 252 mi_X4_answer 1 := ⟨gwl_in4 41 rfl rfl, cd_X4_answer⟩
set_option maxRecDepth 100000 in
theorem lk_X9_255 : ev_lk RX9 255 mi_X5_has 1 := ⟨gwl_in4 49 rfl rfl, cd_X5_has⟩
set_option maxRecDepth 100000 in
theorem lk_X9_256 : ev_lk RX9 256 mi_X5_isLane 1 := ⟨gwl_in4 53 rfl rfl, cd_X5_isLane⟩
set_option maxRecDepth 100000 in
theorem lk_X9_259 : ev_lk RX9 259 mi_X5_faultAs 2 := ⟨gwl_in4 57 rfl rfl, cd_X5_faultAs⟩
set_option maxRecDepth 100000 in
theorem lk_X9_262 : ev_lk RX9 262 mi_X9_takeHeard 4 := ⟨gwl_in4 65 rfl rfl, cd_X9_takeHeard⟩
set_option maxRecDepth 100000 in
theorem lk_X9_266 : ev_lk RX9 266 mi_X6_find 3 := ⟨gwl_in4 81 rfl rfl, cd_X6_find⟩
set_option maxRecDepth 100000 in
theorem lk_X9_270 : ev_lk RX9 270 mi_X6_answer 1 := ⟨gwl_in4 106 rfl rfl, cd_X6_answer⟩
set_option maxRecDepth 100000 in
theorem lk_X9_271 : ev_lk RX9 271 mi_X9_isPlace 1 := ⟨gwl_in4 118 rfl rfl, cd_X9_isPlace⟩
set_option maxRecDepth 100000 in
theorem lk_X9_274 : ev_lk RX9 274 mi_X3_addBoat 2 := ⟨gwl_in4 121 rfl rfl, cd_X3_addBoat⟩
set_option maxRecDepth 100000 in
theorem lk_X9_277 : ev_lk RX9 277 mi_X3_bendsAt 1 := ⟨gwl_in4 129 rfl rfl, cd_X3_bendsAt⟩
set_option maxRecDepth 100000 in
theorem lk_X9_280 : ev_lk RX9 280 mi_X3_addBend 2 := ⟨gwl_in4 133 rfl rfl, cd_X3_addBend⟩
set_option maxRecDepth 100000 in
theorem lk_X9_286 : ev_lk RX9 286 mi_X3_way 2 := ⟨gwl_in4 145 rfl rfl, cd_X3_way⟩
set_option maxRecDepth 100000 in
theorem lk_X9_289 : ev_lk RX9 289 mi_X3_hasBoat 1 := ⟨gwl_in4 155 rfl rfl, cd_X3_hasBoat⟩
set_option maxRecDepth 100000 in
theorem lk_X9_292 : ev_lk RX9 292 mi_X3_firstHeard 2 := ⟨gwl_in4 159 rfl rfl, cd_X3_firstHeard⟩
set_option maxRecDepth 100000 in
theorem lk_X9_295 : ev_lk RX9 295 mi_X3_walk 2 := ⟨gwl_in4 168 rfl rfl, cd_X3_walk⟩
set_option maxRecDepth 100000 in
theorem lk_X9_311 : ev_lk RX9 311 mi_X0_restore 2 := ⟨gwl_in4 177 rfl rfl, cd_X0_restore⟩
set_option maxRecDepth 100000 in
theorem lk_X9_318 : ev_lk RX9 318 mi_X5_renew 3 := ⟨gwl_in4 185 rfl rfl, cd_X5_renew⟩
set_option maxRecDepth 100000 in
theorem lk_X9_322 : ev_lk RX9 322 mi_X5_isNothing 1 := ⟨gwl_in4 194 rfl rfl, cd_X5_isNothing⟩
set_option maxRecDepth 100000 in
theorem lk_X9_325 : ev_lk RX9 325 mi_X5_hasCell 2 := ⟨gwl_in4 73 rfl rfl, cd_X5_hasCell⟩
set_option maxRecDepth 100000 in
theorem lk_X9_329 : ev_lk RX9 329 mi_X5_put 3 := ⟨gwl_in4 195 rfl rfl, cd_X5_put⟩
set_option maxRecDepth 100000 in
theorem lk_X9_332 : ev_lk RX9 332 mi_X9_scanOne 2 := ⟨gwl_in4 203 rfl rfl, cd_X9_scanOne⟩
set_option maxRecDepth 100000 in
theorem lk_X9_341 : ev_lk RX9 341 mi_J6_bitCount_0f7a4 1 := ⟨gwl_in3 161 rfl rfl, cd_J6_bitCount_0f7a4⟩
set_option maxRecDepth 100000 in
theorem lk_X9_346 : ev_lk RX9 346 mi_X8_cracked 0 := ⟨gwl_in4 211 rfl rfl, cd_X8_cracked⟩
set_option maxRecDepth 100000 in
theorem lk_X9_352 : ev_lk RX9 352 mi_X7_chordIn 3 := ⟨gwl_in3 191 rfl rfl, cd_X7_chordIn⟩
set_option maxRecDepth 100000 in
theorem lk_X9_356 : ev_lk RX9 356 mi_J9_max_7cf53 2 := ⟨gwl_in3 195 rfl rfl, cd_J9_max_7cf53⟩
set_option maxRecDepth 100000 in
theorem lk_X9_359 : ev_lk RX9 359 mi_X6_forget 0 := ⟨gwl_in4 69 rfl rfl, cd_X6_forget⟩
set_option maxRecDepth 100000 in
theorem lk_X9_365 : ev_lk RX9 365 mi_X6_addBeat 2 := ⟨gwl_in4 77 rfl rfl, cd_X6_addBeat⟩
set_option maxRecDepth 100000 in
theorem oi_X0_5 : Cond.methodLink RX0 5 objectInit ∈ gwl := gwl_in1 112 rfl rfl
set_option maxRecDepth 100000 in
theorem cp_X0_52 : Cond.methodLink RX0 52 arraycopyName ∈ gwl := gwl_in2 160 rfl rfl
set_option maxRecDepth 100000 in
theorem lk_X0_61 : ev_lk RX0 61 mi_J9_min_7cf53 2 := ⟨gwl_in2 163 rfl rfl, cd_J9_min_7cf53⟩
set_option maxRecDepth 100000 in
theorem oi_X1_1 : Cond.methodLink RX1 1 objectInit ∈ gwl := gwl_in1 29 rfl rfl
set_option maxRecDepth 100000 in
theorem lk_X1_25 : ev_lk RX1 25 mi_J9_max_7cf53 2 := ⟨gwl_in2 224 rfl rfl, cd_J9_max_7cf53⟩
set_option maxRecDepth 100000 in
theorem lk_X1_31 : ev_lk RX1 31 mi_J9_min_7cf53 2 := ⟨gwl_in4 15 rfl rfl, cd_J9_min_7cf53⟩
set_option maxRecDepth 100000 in
theorem oi_X2_3 : Cond.methodLink RX2 3 objectInit ∈ gwl := gwl_in1 135 rfl rfl
set_option maxRecDepth 100000 in
theorem lk_X2_56 : ev_lk RX2 56 mi_X2_readToken 0 := ⟨gwl_in3 65 rfl rfl, cd_X2_readToken⟩
set_option maxRecDepth 100000 in
theorem lk_X2_59 : ev_lk RX2 59 mi_X2_take 1 := ⟨gwl_in3 93 rfl rfl, cd_X2_take⟩
set_option maxRecDepth 100000 in
theorem lk_X2_63 : ev_lk RX2 63 mi_X2_isLetter 1 := ⟨gwl_in3 69 rfl rfl, cd_X2_isLetter⟩
set_option maxRecDepth 100000 in
theorem lk_X2_67 : ev_lk RX2 67 mi_X2_readChord 0 := ⟨gwl_in3 73 rfl rfl, cd_X2_readChord⟩
set_option maxRecDepth 100000 in
theorem lk_X2_70 : ev_lk RX2 70 mi_X2_isFigure 1 := ⟨gwl_in3 81 rfl rfl, cd_X2_isFigure⟩
set_option maxRecDepth 100000 in
theorem lk_X2_73 : ev_lk RX2 73 mi_X2_readNumber 0 := ⟨gwl_in3 85 rfl rfl, cd_X2_readNumber⟩
set_option maxRecDepth 100000 in
theorem lk_X2_76 : ev_lk RX2 76 mi_X2_readSign 0 := ⟨gwl_in3 89 rfl rfl, cd_X2_readSign⟩
set_option maxRecDepth 100000 in
theorem lk_X2_79 : ev_lk RX2 79 mi_X2_fail 2 := ⟨gwl_in3 77 rfl rfl, cd_X2_fail⟩
set_option maxRecDepth 100000 in
theorem lk_X2_83 : ev_lk RX2 83 mi_X2_takeOpen 0 := ⟨gwl_in3 97 rfl rfl, cd_X2_takeOpen⟩
set_option maxRecDepth 100000 in
theorem lk_X2_87 : ev_lk RX2 87 mi_X2_misplaced 0 := ⟨gwl_in3 101 rfl rfl, cd_X2_misplaced⟩
set_option maxRecDepth 100000 in
theorem lk_X2_90 : ev_lk RX2 90 mi_X2_takeChord 0 := ⟨gwl_in3 105 rfl rfl, cd_X2_takeChord⟩
set_option maxRecDepth 100000 in
theorem lk_X2_93 : ev_lk RX2 93 mi_X2_addBeat 1 := ⟨gwl_in3 109 rfl rfl, cd_X2_addBeat⟩
set_option maxRecDepth 100000 in
theorem lk_X2_96 : ev_lk RX2 96 mi_X2_takeNumber 0 := ⟨gwl_in3 114 rfl rfl, cd_X2_takeNumber⟩
set_option maxRecDepth 100000 in
theorem lk_X2_99 : ev_lk RX2 99 mi_X2_takeClose 0 := ⟨gwl_in3 119 rfl rfl, cd_X2_takeClose⟩
set_option maxRecDepth 100000 in
theorem lk_X2_102 : ev_lk RX2 102 mi_X2_takeEnd 0 := ⟨gwl_in3 123 rfl rfl, cd_X2_takeEnd⟩
set_option maxRecDepth 100000 in
theorem lk_X2_105 : ev_lk RX2 105 mi_J9_min_7cf53 2 := ⟨gwl_in3 113 rfl rfl, cd_J9_min_7cf53⟩
theorem lk_X2_111 : ev_ln RX2 111 mi_X9_isWithin 3 := ⟨⟨"SteamTunes", List.mem_of_getElem? (i := 10) (by decide +kernel)⟩, cd_X9_isWithin⟩
set_option maxRecDepth 100000 in
theorem oi_X3_3 : Cond.methodLink RX3 3 objectInit ∈ gwl := gwl_in2 57 rfl rfl
set_option maxRecDepth 100000 in
theorem lk_X3_46 : ev_lk RX3 46 mi_J9_min_7cf53 2 := ⟨gwl_in4 149 rfl rfl, cd_J9_min_7cf53⟩
set_option maxRecDepth 100000 in
theorem lk_X3_52 : ev_lk RX3 52 mi_J9_max_7cf53 2 := ⟨gwl_in4 150 rfl rfl, cd_J9_max_7cf53⟩
set_option maxRecDepth 100000 in
theorem lk_X3_55 : ev_lk RX3 55 mi_X3_way 2 := ⟨gwl_in4 163 rfl rfl, cd_X3_way⟩
set_option maxRecDepth 100000 in
theorem lk_X3_58 : ev_lk RX3 58 mi_X3_firstHeard 2 := ⟨gwl_in4 172 rfl rfl, cd_X3_firstHeard⟩
set_option maxRecDepth 100000 in
theorem oi_X4_3 : Cond.methodLink RX4 3 objectInit ∈ gwl := gwl_in1 211 rfl rfl
set_option maxRecDepth 100000 in
theorem lk_X4_66 : ev_lk RX4 66 mi_X7_chordIn 3 := ⟨gwl_in3 217 rfl rfl, cd_X7_chordIn⟩
set_option maxRecDepth 100000 in
theorem lk_X4_76 : ev_lk RX4 76 mi_X8_drawnBy 2 := ⟨gwl_in3 223 rfl rfl, cd_X8_drawnBy⟩
set_option maxRecDepth 100000 in
theorem lk_X4_80 : ev_lk RX4 80 mi_X4_markNear 2 := ⟨gwl_in3 224 rfl rfl, cd_X4_markNear⟩
set_option maxRecDepth 100000 in
theorem lk_X4_84 : ev_lk RX4 84 mi_X4_cell 2 := ⟨gwl_in3 229 rfl rfl, cd_X4_cell⟩
set_option maxRecDepth 100000 in
theorem lk_X4_87 : ev_lk RX4 87 mi_J7_fill_fda19 4 := ⟨gwl_in3 232 rfl rfl, cd_J7_fill_fda19⟩
set_option maxRecDepth 100000 in
theorem lk_X4_93 : ev_lk RX4 93 mi_X4_listOptions 2 := ⟨gwl_in3 238 rfl rfl, cd_X4_listOptions⟩
set_option maxRecDepth 100000 in
theorem lk_X4_96 : ev_lk RX4 96 mi_X4_fillSounding 2 := ⟨gwl_in4 2 rfl rfl, cd_X4_fillSounding⟩
set_option maxRecDepth 100000 in
theorem lk_X4_100 : ev_lk RX4 100 mi_X4_fillResting 2 := ⟨gwl_in4 20 rfl rfl, cd_X4_fillResting⟩
set_option maxRecDepth 100000 in
theorem lk_X4_103 : ev_lk RX4 103 mi_X4_follow 3 := ⟨gwl_in4 25 rfl rfl, cd_X4_follow⟩
set_option maxRecDepth 100000 in
theorem lk_X4_110 : ev_lk RX4 110 mi_X8_isNear 3 := ⟨gwl_in3 228 rfl rfl, cd_X8_isNear⟩
set_option maxRecDepth 100000 in
theorem lk_X4_119 : ev_lk RX4 119 mi_X4_isOpen 2 := ⟨gwl_in4 6 rfl rfl, cd_X4_isOpen⟩
set_option maxRecDepth 100000 in
theorem lk_X4_123 : ev_lk RX4 123 mi_J6_bitCount_0f7a4 1 := ⟨gwl_in4 10 rfl rfl, cd_J6_bitCount_0f7a4⟩
set_option maxRecDepth 100000 in
theorem lk_X4_129 : ev_lk RX4 129 mi_X1_after 2 := ⟨gwl_in4 11 rfl rfl, cd_X1_after⟩
set_option maxRecDepth 100000 in
theorem lk_X4_132 : ev_lk RX4 132 mi_X4_raise 3 := ⟨gwl_in4 16 rfl rfl, cd_X4_raise⟩
set_option maxRecDepth 100000 in
theorem lk_X4_136 : ev_lk RX4 136 mi_J9_max_7cf53 2 := ⟨gwl_in4 24 rfl rfl, cd_J9_max_7cf53⟩
set_option maxRecDepth 100000 in
theorem lk_X4_144 : ev_lk RX4 144 mi_X4_bestOption 4 := ⟨gwl_in4 29 rfl rfl, cd_X4_bestOption⟩
set_option maxRecDepth 100000 in
theorem lk_X4_148 : ev_lk RX4 148 mi_X4_worthOf 5 := ⟨gwl_in4 33 rfl rfl, cd_X4_worthOf⟩
set_option maxRecDepth 100000 in
theorem oi_X5_1 : Cond.methodLink RX5 1 objectInit ∈ gwl := gwl_in2 104 rfl rfl
set_option maxRecDepth 100000 in
theorem lk_X5_21 : ev_lk RX5 21 mi_X5_isNothing 1 := ⟨gwl_in4 61 rfl rfl, cd_X5_isNothing⟩
set_option maxRecDepth 100000 in
theorem lk_X5_25 : ev_lk RX5 25 mi_J7_fill_53178 2 := ⟨gwl_in4 189 rfl rfl, cd_J7_fill_53178⟩
set_option maxRecDepth 100000 in
theorem oi_X6_3 : Cond.methodLink RX6 3 objectInit ∈ gwl := gwl_in2 26 rfl rfl
set_option maxRecDepth 100000 in
theorem lk_X6_42 : ev_lk RX6 42 mi_X6_explains 4 := ⟨gwl_in4 85 rfl rfl, cd_X6_explains⟩
set_option maxRecDepth 100000 in
theorem lk_X6_46 : ev_lk RX6 46 mi_X6_triedCracks 0 := ⟨gwl_in4 101 rfl rfl, cd_X6_triedCracks⟩
set_option maxRecDepth 100000 in
theorem cp_X6_50 : Cond.methodLink RX6 50 arraycopyName ∈ gwl := gwl_in4 105 rfl rfl
set_option maxRecDepth 100000 in
theorem lk_X6_56 : ev_lk RX6 56 mi_J7_fill_53178 2 := ⟨gwl_in4 89 rfl rfl, cd_J7_fill_53178⟩
theorem lk_X6_62 : ev_ln RX6 62 mi_X9_leastOf 1 := ⟨⟨"SteamTunes", List.mem_of_getElem? (i := 13) (by decide +kernel)⟩, cd_X9_leastOf⟩
set_option maxRecDepth 100000 in
theorem lk_X6_66 : ev_lk RX6 66 mi_X6_agrees 4 := ⟨gwl_in4 93 rfl rfl, cd_X6_agrees⟩
set_option maxRecDepth 100000 in
theorem lk_X6_70 : ev_lk RX6 70 mi_X8_drawnBy 2 := ⟨gwl_in4 99 rfl rfl, cd_X8_drawnBy⟩
set_option maxRecDepth 100000 in
theorem lk_X6_74 : ev_lk RX6 74 mi_X1_after 2 := ⟨gwl_in4 100 rfl rfl, cd_X1_after⟩
set_option maxRecDepth 100000 in
theorem lk_X6_85 : ev_lk RX6 85 mi_X8_bentAt 2 := ⟨gwl_in4 97 rfl rfl, cd_X8_bentAt⟩
theorem lk_X6_88 : ev_ln RX6 88 mi_X9_isWithin 3 := ⟨⟨"SteamTunes", List.mem_of_getElem? (i := 14) (by decide +kernel)⟩, cd_X9_isWithin⟩
set_option maxRecDepth 100000 in
theorem lk_X6_92 : ev_lk RX6 92 mi_X6_crackedBits 0 := ⟨gwl_in4 110 rfl rfl, cd_X6_crackedBits⟩
set_option maxRecDepth 100000 in
theorem oi_X7_3 : Cond.methodLink RX7 3 objectInit ∈ gwl := gwl_in1 190 rfl rfl
set_option maxRecDepth 100000 in
theorem cp_X7_24 : Cond.methodLink RX7 24 arraycopyName ∈ gwl := gwl_in3 131 rfl rfl
set_option maxRecDepth 100000 in
theorem lk_X7_30 : ev_lk RX7 30 mi_J6_bitCount_0f7a4 1 := ⟨gwl_in3 148 rfl rfl, cd_J6_bitCount_0f7a4⟩
set_option maxRecDepth 100000 in
theorem lk_X7_36 : ev_lk RX7 36 mi_X7_whistlesOf 1 := ⟨gwl_in3 184 rfl rfl, cd_X7_whistlesOf⟩
theorem lk_X7_39 : ev_ln RX7 39 mi_X9_leastOf 1 := ⟨⟨"SteamTunes", List.mem_of_getElem? (i := 11) (by decide +kernel)⟩, cd_X9_leastOf⟩
theorem lk_X7_42 : ev_ln RX7 42 mi_X9_greatestOf 1 := ⟨⟨"SteamTunes", List.mem_of_getElem? (i := 12) (by decide +kernel)⟩, cd_X9_greatestOf⟩
set_option maxRecDepth 100000 in
theorem oi_X8_3 : Cond.methodLink RX8 3 objectInit ∈ gwl := gwl_in1 63 rfl rfl
theorem lk_X8_38 : ev_ln RX8 38 mi_X9_isWithin 3 := ⟨⟨"SteamTunes", List.mem_of_getElem? (i := 9) (by decide +kernel)⟩, cd_X9_isWithin⟩
set_option maxRecDepth 100000 in
theorem lk_X8_42 : ev_lk RX8 42 mi_X8_all 0 := ⟨gwl_in2 195 rfl rfl, cd_X8_all⟩
set_option maxRecDepth 100000 in
theorem lk_X8_46 : ev_lk RX8 46 mi_J9_floorDiv_7cf53 2 := ⟨gwl_in2 211 rfl rfl, cd_J9_floorDiv_7cf53⟩
set_option maxRecDepth 100000 in
theorem lk_X8_52 : ev_lk RX8 52 mi_X8_bentAt 2 := ⟨gwl_in2 207 rfl rfl, cd_X8_bentAt⟩
set_option maxRecDepth 100000 in
theorem lk_X8_55 : ev_lk RX8 55 mi_X8_offAt 2 := ⟨gwl_in2 203 rfl rfl, cd_X8_offAt⟩
set_option maxRecDepth 100000 in
theorem lk_X8_58 : ev_lk RX8 58 mi_J9_abs_0f7a4 1 := ⟨gwl_in2 214 rfl rfl, cd_J9_abs_0f7a4⟩
set_option maxRecDepth 100000 in
theorem lk_X8_62 : ev_lk RX8 62 mi_J9_max_7cf53 2 := ⟨gwl_in2 217 rfl rfl, cd_J9_max_7cf53⟩
set_option maxRecDepth 100000 in
theorem lk_X8_65 : ev_lk RX8 65 mi_J9_min_7cf53 2 := ⟨gwl_in3 35 rfl rfl, cd_J9_min_7cf53⟩
set_option maxRecDepth 100000 in
theorem lk_L_9 : ev_lk RL 9 mi_X9_init 0 := ⟨gwl_in1 18 rfl rfl, cd_X9_init⟩
set_option maxRecDepth 100000 in
theorem lk_L_12 : ev_lk RL 12 mi_X10_init 0 := ⟨gwl_in4 217 rfl rfl, cd_X10_init⟩
set_option maxRecDepth 100000 in
theorem lk_L_13 : ev_lk RL 13 mi_X9_fire 1 := ⟨gwl_in2 149 rfl rfl, cd_X9_fire⟩
set_option maxRecDepth 100000 in
theorem lk_L_17 : ev_lk RL 17 mi_X10_fire 1 := ⟨gwl_in5 152 rfl rfl, cd_X10_fire⟩
set_option maxRecDepth 100000 in
theorem lk_L_18 : ev_lk RL 18 mi_X9_water 1 := ⟨gwl_in2 166 rfl rfl, cd_X9_water⟩
set_option maxRecDepth 100000 in
theorem lk_L_21 : ev_lk RL 21 mi_X10_water 1 := ⟨gwl_in5 164 rfl rfl, cd_X10_water⟩
set_option maxRecDepth 100000 in
theorem lk_L_22 : ev_lk RL 22 mi_X9_valve 1 := ⟨gwl_in2 171 rfl rfl, cd_X9_valve⟩
set_option maxRecDepth 100000 in
theorem lk_L_25 : ev_lk RL 25 mi_X10_valve 1 := ⟨gwl_in5 169 rfl rfl, cd_X10_valve⟩
set_option maxRecDepth 100000 in
theorem lk_L_26 : ev_lk RL 26 mi_X9_pressure 1 := ⟨gwl_in2 175 rfl rfl, cd_X9_pressure⟩
set_option maxRecDepth 100000 in
theorem lk_L_29 : ev_lk RL 29 mi_X10_pressure 1 := ⟨gwl_in5 175 rfl rfl, cd_X10_pressure⟩
set_option maxRecDepth 100000 in
theorem lk_L_30 : ev_lk RL 30 mi_X9_boiler 1 := ⟨gwl_in2 179 rfl rfl, cd_X9_boiler⟩
set_option maxRecDepth 100000 in
theorem lk_L_33 : ev_lk RL 33 mi_X10_boiler 1 := ⟨gwl_in5 179 rfl rfl, cd_X10_boiler⟩
set_option maxRecDepth 100000 in
theorem lk_L_34 : ev_lk RL 34 mi_X9_beat 1 := ⟨gwl_in2 187 rfl rfl, cd_X9_beat⟩
set_option maxRecDepth 100000 in
theorem lk_L_37 : ev_lk RL 37 mi_X10_beat 1 := ⟨gwl_in5 187 rfl rfl, cd_X10_beat⟩
set_option maxRecDepth 100000 in
theorem lk_L_38 : ev_lk RL 38 mi_X9_whistle 4 := ⟨gwl_in2 225 rfl rfl, cd_X9_whistle⟩
set_option maxRecDepth 100000 in
theorem lk_L_42 : ev_lk RL 42 mi_X10_whistle 4 := ⟨gwl_in5 209 rfl rfl, cd_X10_whistle⟩
set_option maxRecDepth 100000 in
theorem lk_L_43 : ev_lk RL 43 mi_X9_told 2 := ⟨gwl_in2 234 rfl rfl, cd_X9_told⟩
set_option maxRecDepth 100000 in
theorem lk_L_47 : ev_lk RL 47 mi_X10_told 2 := ⟨gwl_in5 215 rfl rfl, cd_X10_told⟩
set_option maxRecDepth 100000 in
theorem lk_L_48 : ev_lk RL 48 mi_X9_stem 2 := ⟨gwl_in3 2 rfl rfl, cd_X9_stem⟩
set_option maxRecDepth 100000 in
theorem lk_L_51 : ev_lk RL 51 mi_X10_stem 2 := ⟨gwl_in5 224 rfl rfl, cd_X10_stem⟩
set_option maxRecDepth 100000 in
theorem lk_L_52 : ev_lk RL 52 mi_X9_crack 2 := ⟨gwl_in3 6 rfl rfl, cd_X9_crack⟩
set_option maxRecDepth 100000 in
theorem lk_L_55 : ev_lk RL 55 mi_X10_crack 2 := ⟨gwl_in5 230 rfl rfl, cd_X10_crack⟩
set_option maxRecDepth 100000 in
theorem lk_L_56 : ev_lk RL 56 mi_X9_leak 2 := ⟨gwl_in3 10 rfl rfl, cd_X9_leak⟩
set_option maxRecDepth 100000 in
theorem lk_L_60 : ev_lk RL 60 mi_X10_leak 2 := ⟨gwl_in5 235 rfl rfl, cd_X10_leak⟩
set_option maxRecDepth 100000 in
theorem lk_L_61 : ev_lk RL 61 mi_X9_pitch 2 := ⟨gwl_in3 14 rfl rfl, cd_X9_pitch⟩
set_option maxRecDepth 100000 in
theorem lk_L_64 : ev_lk RL 64 mi_X10_pitch 2 := ⟨gwl_in5 239 rfl rfl, cd_X10_pitch⟩
set_option maxRecDepth 100000 in
theorem lk_L_65 : ev_lk RL 65 mi_X9_holds 2 := ⟨gwl_in3 19 rfl rfl, cd_X9_holds⟩
set_option maxRecDepth 100000 in
theorem lk_L_68 : ev_lk RL 68 mi_X10_holds 2 := ⟨gwl_in6 3 rfl rfl, cd_X10_holds⟩
set_option maxRecDepth 100000 in
theorem lk_L_69 : ev_lk RL 69 mi_X9_tuneAll 1 := ⟨gwl_in3 27 rfl rfl, cd_X9_tuneAll⟩
set_option maxRecDepth 100000 in
theorem lk_L_72 : ev_lk RL 72 mi_X10_tuneAll 1 := ⟨gwl_in6 8 rfl rfl, cd_X10_tuneAll⟩
set_option maxRecDepth 100000 in
theorem lk_L_73 : ev_lk RL 73 mi_X9_agree 1 := ⟨gwl_in3 40 rfl rfl, cd_X9_agree⟩
set_option maxRecDepth 100000 in
theorem lk_L_76 : ev_lk RL 76 mi_X10_agree 1 := ⟨gwl_in6 12 rfl rfl, cd_X10_agree⟩
set_option maxRecDepth 100000 in
theorem lk_L_79 : ev_lk RL 79 mi_X9_feed 1 := ⟨gwl_in3 45 rfl rfl, cd_X9_feed⟩
set_option maxRecDepth 100000 in
theorem lk_L_83 : ev_lk RL 83 mi_X10_feed 1 := ⟨gwl_in6 18 rfl rfl, cd_X10_feed⟩
set_option maxRecDepth 100000 in
theorem lk_L_84 : ev_lk RL 84 mi_X9_end 1 := ⟨gwl_in3 53 rfl rfl, cd_X9_end⟩
set_option maxRecDepth 100000 in
theorem lk_L_87 : ev_lk RL 87 mi_X10_end 1 := ⟨gwl_in6 23 rfl rfl, cd_X10_end⟩
set_option maxRecDepth 100000 in
theorem lk_L_88 : ev_lk RL 88 mi_X9_tune 0 := ⟨gwl_in3 57 rfl rfl, cd_X9_tune⟩
set_option maxRecDepth 100000 in
theorem lk_L_92 : ev_lk RL 92 mi_X10_tune 0 := ⟨gwl_in6 27 rfl rfl, cd_X10_tune⟩
set_option maxRecDepth 100000 in
theorem lk_L_93 : ev_lk RL 93 mi_X9_fault 0 := ⟨gwl_in3 132 rfl rfl, cd_X9_fault⟩
set_option maxRecDepth 100000 in
theorem lk_L_96 : ev_lk RL 96 mi_X10_fault 0 := ⟨gwl_in6 74 rfl rfl, cd_X10_fault⟩
set_option maxRecDepth 100000 in
theorem lk_L_97 : ev_lk RL 97 mi_X9_tuneOf 2 := ⟨gwl_in3 136 rfl rfl, cd_X9_tuneOf⟩
set_option maxRecDepth 100000 in
theorem lk_L_100 : ev_lk RL 100 mi_X10_tuneOf 2 := ⟨gwl_in6 78 rfl rfl, cd_X10_tuneOf⟩
set_option maxRecDepth 100000 in
theorem lk_L_101 : ev_lk RL 101 mi_X9_play 2 := ⟨gwl_in3 169 rfl rfl, cd_X9_play⟩
set_option maxRecDepth 100000 in
theorem lk_L_104 : ev_lk RL 104 mi_X10_play 2 := ⟨gwl_in6 96 rfl rfl, cd_X10_play⟩
set_option maxRecDepth 100000 in
theorem lk_L_105 : ev_lk RL 105 mi_X9_would 2 := ⟨gwl_in3 196 rfl rfl, cd_X9_would⟩
set_option maxRecDepth 100000 in
theorem lk_L_108 : ev_lk RL 108 mi_X10_would 2 := ⟨gwl_in6 118 rfl rfl, cd_X10_would⟩
set_option maxRecDepth 100000 in
theorem lk_L_109 : ev_lk RL 109 mi_X9_key 2 := ⟨gwl_in3 200 rfl rfl, cd_X9_key⟩
set_option maxRecDepth 100000 in
theorem lk_L_112 : ev_lk RL 112 mi_X10_key 2 := ⟨gwl_in6 122 rfl rfl, cd_X10_key⟩
set_option maxRecDepth 100000 in
theorem lk_L_113 : ev_lk RL 113 mi_X9_set 5 := ⟨gwl_in3 205 rfl rfl, cd_X9_set⟩
set_option maxRecDepth 100000 in
theorem lk_L_117 : ev_lk RL 117 mi_X10_set 5 := ⟨gwl_in6 126 rfl rfl, cd_X10_set⟩
set_option maxRecDepth 100000 in
theorem lk_L_118 : ev_lk RL 118 mi_X9_blame 7 := ⟨gwl_in4 45 rfl rfl, cd_X9_blame⟩
set_option maxRecDepth 100000 in
theorem lk_L_122 : ev_lk RL 122 mi_X10_blame 7 := ⟨gwl_in6 157 rfl rfl, cd_X10_blame⟩
set_option maxRecDepth 100000 in
theorem lk_L_123 : ev_lk RL 123 mi_X9_boat 2 := ⟨gwl_in4 114 rfl rfl, cd_X9_boat⟩
set_option maxRecDepth 100000 in
theorem lk_L_126 : ev_lk RL 126 mi_X10_boat 2 := ⟨gwl_in6 175 rfl rfl, cd_X10_boat⟩
set_option maxRecDepth 100000 in
theorem lk_L_127 : ev_lk RL 127 mi_X9_bend 2 := ⟨gwl_in4 125 rfl rfl, cd_X9_bend⟩
set_option maxRecDepth 100000 in
theorem lk_L_130 : ev_lk RL 130 mi_X10_bend 2 := ⟨gwl_in6 181 rfl rfl, cd_X10_bend⟩
set_option maxRecDepth 100000 in
theorem lk_L_131 : ev_lk RL 131 mi_X9_speed 1 := ⟨gwl_in4 137 rfl rfl, cd_X9_speed⟩
set_option maxRecDepth 100000 in
theorem lk_L_134 : ev_lk RL 134 mi_X10_speed 1 := ⟨gwl_in6 185 rfl rfl, cd_X10_speed⟩
set_option maxRecDepth 100000 in
theorem lk_L_135 : ev_lk RL 135 mi_X9_far 2 := ⟨gwl_in4 141 rfl rfl, cd_X9_far⟩
set_option maxRecDepth 100000 in
theorem lk_L_138 : ev_lk RL 138 mi_X10_far 2 := ⟨gwl_in6 189 rfl rfl, cd_X10_far⟩
set_option maxRecDepth 100000 in
theorem lk_L_139 : ev_lk RL 139 mi_X9_heard 3 := ⟨gwl_in4 151 rfl rfl, cd_X9_heard⟩
set_option maxRecDepth 100000 in
theorem lk_L_143 : ev_lk RL 143 mi_X10_heard 3 := ⟨gwl_in6 197 rfl rfl, cd_X10_heard⟩
set_option maxRecDepth 100000 in
theorem lk_L_144 : ev_lk RL 144 mi_X9_step 3 := ⟨gwl_in4 164 rfl rfl, cd_X9_step⟩
set_option maxRecDepth 100000 in
theorem lk_L_147 : ev_lk RL 147 mi_X10_step 3 := ⟨gwl_in6 205 rfl rfl, cd_X10_step⟩
set_option maxRecDepth 100000 in
theorem lk_L_148 : ev_lk RL 148 mi_X9_undo 0 := ⟨gwl_in4 173 rfl rfl, cd_X9_undo⟩
set_option maxRecDepth 100000 in
theorem lk_L_151 : ev_lk RL 151 mi_X10_undo 0 := ⟨gwl_in5 148 rfl rfl, cd_X10_undo⟩
set_option maxRecDepth 100000 in
theorem lk_L_152 : ev_lk RL 152 mi_X9_sheet 3 := ⟨gwl_in4 181 rfl rfl, cd_X9_sheet⟩
set_option maxRecDepth 100000 in
theorem lk_L_155 : ev_lk RL 155 mi_X10_sheet 3 := ⟨gwl_in6 209 rfl rfl, cd_X10_sheet⟩
set_option maxRecDepth 100000 in
theorem lk_L_156 : ev_lk RL 156 mi_X9_lay 3 := ⟨gwl_in4 190 rfl rfl, cd_X9_lay⟩
set_option maxRecDepth 100000 in
theorem lk_L_159 : ev_lk RL 159 mi_X10_lay 3 := ⟨gwl_in6 213 rfl rfl, cd_X10_lay⟩
set_option maxRecDepth 100000 in
theorem lk_L_160 : ev_lk RL 160 mi_X9_scan 4 := ⟨gwl_in4 199 rfl rfl, cd_X9_scan⟩
set_option maxRecDepth 100000 in
theorem lk_L_164 : ev_lk RL 164 mi_X10_scan 4 := ⟨gwl_in6 217 rfl rfl, cd_X10_scan⟩
set_option maxRecDepth 100000 in
theorem lk_L_165 : ev_lk RL 165 mi_X9_count 1 := ⟨gwl_in4 207 rfl rfl, cd_X9_count⟩
set_option maxRecDepth 100000 in
theorem lk_L_168 : ev_lk RL 168 mi_X10_count 1 := ⟨gwl_in6 224 rfl rfl, cd_X10_count⟩
set_option maxRecDepth 100000 in
theorem oi_X10_1 : Cond.methodLink RX10 1 objectInit ∈ gwl := gwl_in4 220 rfl rfl
set_option maxRecDepth 100000 in
theorem lk_X10_124 : ev_lk RX10 124 mi_X10_in 3 := ⟨gwl_in5 157 rfl rfl, cd_X10_in⟩
set_option maxRecDepth 100000 in
theorem lk_X10_136 : ev_lk RX10 136 mi_X10_keeps 0 := ⟨gwl_in5 160 rfl rfl, cd_X10_keeps⟩
set_option maxRecDepth 100000 in
theorem lk_X10_145 : ev_lk RX10 145 mi_X10_drawn 1 := ⟨gwl_in5 183 rfl rfl, cd_X10_drawn⟩
set_option maxRecDepth 100000 in
theorem lk_X10_149 : ev_lk RX10 149 mi_X10_down 2 := ⟨gwl_in5 203 rfl rfl, cd_X10_down⟩
set_option maxRecDepth 100000 in
theorem lk_X10_153 : ev_lk RX10 153 mi_X10_off 2 := ⟨gwl_in5 199 rfl rfl, cd_X10_off⟩
set_option maxRecDepth 100000 in
theorem lk_X10_156 : ev_lk RX10 156 mi_X10_size 1 := ⟨gwl_in5 206 rfl rfl, cd_X10_size⟩
set_option maxRecDepth 100000 in
theorem lk_X10_159 : ev_lk RX10 159 mi_X10_strayOf 2 := ⟨gwl_in5 195 rfl rfl, cd_X10_strayOf⟩
set_option maxRecDepth 100000 in
theorem lk_X10_162 : ev_lk RX10 162 mi_X10_goes 1 := ⟨gwl_in5 191 rfl rfl, cd_X10_goes⟩
set_option maxRecDepth 100000 in
theorem lk_X10_169 : ev_lk RX10 169 mi_X10_isWhistle 1 := ⟨gwl_in5 219 rfl rfl, cd_X10_isWhistle⟩
set_option maxRecDepth 100000 in
theorem lk_X10_200 : ev_lk RX10 200 mi_X10_fails 2 := ⟨gwl_in6 45 rfl rfl, cd_X10_fails⟩
set_option maxRecDepth 100000 in
theorem lk_X10_213 : ev_lk RX10 213 mi_X10_look 1 := ⟨gwl_in6 35 rfl rfl, cd_X10_look⟩
set_option maxRecDepth 100000 in
theorem lk_X10_220 : ev_lk RX10 220 mi_X10_bits 1 := ⟨gwl_in6 49 rfl rfl, cd_X10_bits⟩
set_option maxRecDepth 100000 in
theorem lk_X10_223 : ev_lk RX10 223 mi_X10_readChord 0 := ⟨gwl_in6 41 rfl rfl, cd_X10_readChord⟩
set_option maxRecDepth 100000 in
theorem lk_X10_230 : ev_lk RX10 230 mi_X10_wants 2 := ⟨gwl_in6 54 rfl rfl, cd_X10_wants⟩
set_option maxRecDepth 100000 in
theorem lk_X10_244 : ev_lk RX10 244 mi_X10_isSign 1 := ⟨gwl_in6 62 rfl rfl, cd_X10_isSign⟩
set_option maxRecDepth 100000 in
theorem lk_X10_247 : ev_lk RX10 247 mi_X10_beatRead 1 := ⟨gwl_in6 66 rfl rfl, cd_X10_beatRead⟩
set_option maxRecDepth 100000 in
theorem lk_X10_251 : ev_lk RX10 251 mi_X10_next 0 := ⟨gwl_in6 31 rfl rfl, cd_X10_next⟩
set_option maxRecDepth 100000 in
theorem lk_X10_254 : ev_lk RX10 254 mi_X10_closes 0 := ⟨gwl_in6 70 rfl rfl, cd_X10_closes⟩
set_option maxRecDepth 100000 in
theorem lk_X10_260 : ev_lk RX10 260 mi_X10_readTune 0 := ⟨gwl_in6 58 rfl rfl, cd_X10_readTune⟩
set_option maxRecDepth 100000 in
theorem lk_X10_263 : ev_lk RX10 263 mi_X10_chordAt 2 := ⟨gwl_in6 88 rfl rfl, cd_X10_chordAt⟩
set_option maxRecDepth 100000 in
theorem lk_X10_266 : ev_lk RX10 266 mi_X10_isTune 1 := ⟨gwl_in6 82 rfl rfl, cd_X10_isTune⟩
set_option maxRecDepth 100000 in
theorem lk_X10_273 : ev_lk RX10 273 mi_X10_allOf 1 := ⟨gwl_in6 92 rfl rfl, cd_X10_allOf⟩
set_option maxRecDepth 100000 in
theorem lk_X10_276 : ev_lk RX10 276 mi_X10_moved 2 := ⟨gwl_in6 114 rfl rfl, cd_X10_moved⟩
set_option maxRecDepth 100000 in
theorem lk_X10_279 : ev_lk RX10 279 mi_X10_goesAll 2 := ⟨gwl_in6 110 rfl rfl, cd_X10_goesAll⟩
set_option maxRecDepth 100000 in
theorem lk_X10_286 : ev_lk RX10 286 mi_X10_isIn 2 := ⟨gwl_in6 102 rfl rfl, cd_X10_isIn⟩
set_option maxRecDepth 100000 in
theorem lk_X10_290 : ev_lk RX10 290 mi_X10_tried 2 := ⟨gwl_in6 106 rfl rfl, cd_X10_tried⟩
set_option maxRecDepth 100000 in
theorem lk_X10_293 : ev_lk RX10 293 mi_X10_spot 3 := ⟨gwl_in6 144 rfl rfl, cd_X10_spot⟩
set_option maxRecDepth 100000 in
theorem lk_X10_297 : ev_lk RX10 297 mi_X10_then 2 := ⟨gwl_in6 148 rfl rfl, cd_X10_then⟩
set_option maxRecDepth 100000 in
theorem lk_X10_304 : ev_lk RX10 304 mi_X10_prepares 1 := ⟨gwl_in6 136 rfl rfl, cd_X10_prepares⟩
set_option maxRecDepth 100000 in
theorem lk_X10_307 : ev_lk RX10 307 mi_X10_meets 3 := ⟨gwl_in6 140 rfl rfl, cd_X10_meets⟩
set_option maxRecDepth 100000 in
theorem lk_X10_311 : ev_lk RX10 311 mi_X10_bestSound 4 := ⟨gwl_in6 152 rfl rfl, cd_X10_bestSound⟩
set_option maxRecDepth 100000 in
theorem lk_X10_325 : ev_lk RX10 325 mi_X10_fills 4 := ⟨gwl_in6 132 rfl rfl, cd_X10_fills⟩
set_option maxRecDepth 100000 in
theorem lk_X10_329 : ev_lk RX10 329 mi_X10_lowest 1 := ⟨gwl_in6 168 rfl rfl, cd_X10_lowest⟩
set_option maxRecDepth 100000 in
theorem lk_X10_332 : ev_lk RX10 332 mi_X10_drawnWith 2 := ⟨gwl_in6 171 rfl rfl, cd_X10_drawnWith⟩
set_option maxRecDepth 100000 in
theorem lk_X10_335 : ev_lk RX10 335 mi_X10_isSheet 2 := ⟨gwl_in6 161 rfl rfl, cd_X10_isSheet⟩
set_option maxRecDepth 100000 in
theorem lk_X10_338 : ev_lk RX10 338 mi_X10_explains 6 := ⟨gwl_in6 164 rfl rfl, cd_X10_explains⟩
set_option maxRecDepth 100000 in
theorem lk_X10_352 : ev_lk RX10 352 mi_X10_farOf 2 := ⟨gwl_in6 193 rfl rfl, cd_X10_farOf⟩
set_option maxRecDepth 100000 in
theorem lk_X10_355 : ev_lk RX10 355 mi_X10_heardAt 2 := ⟨gwl_in6 201 rfl rfl, cd_X10_heardAt⟩
set_option maxRecDepth 100000 in
theorem lk_X10_362 : ev_lk RX10 362 mi_X10_whistle 4 := ⟨gwl_in6 223 rfl rfl, cd_X10_whistle⟩
set_option maxRecDepth 100000 in
theorem lk_J7_13 : ev_lk RJ7 13 mi_J7_rangeCheck_23922 3 := ⟨gwl_in3 235 rfl rfl, cd_J7_rangeCheck_23922⟩
set_option maxRecDepth 100000 in
theorem kc_X4_70 : Cond.constant RX4 70 (45225) ∈ gwl := gwl_in3 222 rfl rfl
set_option maxRecDepth 100000 in
theorem kc_L_77 : Cond.constantLong RL 77 (4294967295) ∈ gwl := gwl_in6 228 rfl rfl
set_option maxRecDepth 100000 in
theorem kc_X10_66 : Cond.constant RX10 66 (45225) ∈ gwl := gwl_in4 221 rfl rfl
set_option maxRecDepth 100000 in
theorem kc_X10_134 : Cond.constantLong RX10 134 (9) ∈ gwl := gwl_in5 156 rfl rfl
set_option maxRecDepth 100000 in
theorem kc_X10_139 : Cond.constantLong RX10 139 (9999) ∈ gwl := gwl_in5 168 rfl rfl
set_option maxRecDepth 100000 in
theorem kc_X10_141 : Cond.constantLong RX10 141 (50) ∈ gwl := gwl_in5 173 rfl rfl
set_option maxRecDepth 100000 in
theorem kc_X10_143 : Cond.constantLong RX10 143 (200) ∈ gwl := gwl_in5 174 rfl rfl
set_option maxRecDepth 100000 in
theorem kc_X10_165 : Cond.constantLong RX10 165 (3600) ∈ gwl := gwl_in5 213 rfl rfl
set_option maxRecDepth 100000 in
theorem kc_X10_167 : Cond.constantLong RX10 167 (20) ∈ gwl := gwl_in5 214 rfl rfl
set_option maxRecDepth 100000 in
theorem kc_X10_173 : Cond.constantLong RX10 173 (6) ∈ gwl := gwl_in5 223 rfl rfl
set_option maxRecDepth 100000 in
theorem kc_X10_175 : Cond.constantLong RX10 175 (-100) ∈ gwl := gwl_in5 228 rfl rfl
set_option maxRecDepth 100000 in
theorem kc_X10_177 : Cond.constantLong RX10 177 (100) ∈ gwl := gwl_in5 229 rfl rfl
set_option maxRecDepth 100000 in
theorem kc_X10_179 : Cond.constantLong RX10 179 (-200) ∈ gwl := gwl_in5 234 rfl rfl
set_option maxRecDepth 100000 in
theorem kc_X10_181 : Cond.constantLong RX10 181 (400) ∈ gwl := gwl_in6 7 rfl rfl
set_option maxRecDepth 100000 in
theorem kc_X10_183 : Cond.constantLong RX10 183 (2) ∈ gwl := gwl_in6 16 rfl rfl
set_option maxRecDepth 100000 in
theorem kc_X10_185 : Cond.constant RX10 185 (1000000) ∈ gwl := gwl_in6 17 rfl rfl
set_option maxRecDepth 100000 in
theorem kc_X10_189 : Cond.constantLong RX10 189 (255) ∈ gwl := gwl_in6 22 rfl rfl
set_option maxRecDepth 100000 in
theorem kc_X10_216 : Cond.constantLong RX10 216 (97) ∈ gwl := gwl_in6 39 rfl rfl
set_option maxRecDepth 100000 in
theorem kc_X10_218 : Cond.constantLong RX10 218 (122) ∈ gwl := gwl_in6 40 rfl rfl
set_option maxRecDepth 100000 in
theorem kc_X10_226 : Cond.constantLong RX10 226 (48) ∈ gwl := gwl_in6 52 rfl rfl
set_option maxRecDepth 100000 in
theorem kc_X10_228 : Cond.constantLong RX10 228 (57) ∈ gwl := gwl_in6 53 rfl rfl
set_option maxRecDepth 100000 in
theorem kc_X10_269 : Cond.constantLong RX10 269 (3) ∈ gwl := gwl_in6 86 rfl rfl
set_option maxRecDepth 100000 in
theorem kc_X10_271 : Cond.constantLong RX10 271 (10) ∈ gwl := gwl_in6 87 rfl rfl
set_option maxRecDepth 100000 in
theorem kc_X10_282 : Cond.constantLong RX10 282 (-11) ∈ gwl := gwl_in6 100 rfl rfl
set_option maxRecDepth 100000 in
theorem kc_X10_284 : Cond.constantLong RX10 284 (11) ∈ gwl := gwl_in6 101 rfl rfl
set_option maxRecDepth 100000 in
theorem kc_X10_300 : Cond.constant RX10 300 (-1000000) ∈ gwl := gwl_in6 156 rfl rfl
set_option maxRecDepth 100000 in
theorem kc_X10_321 : Cond.constantLong RX10 321 (8) ∈ gwl := gwl_in6 130 rfl rfl
set_option maxRecDepth 100000 in
theorem kc_X10_323 : Cond.constantLong RX10 323 (40) ∈ gwl := gwl_in6 131 rfl rfl
set_option maxRecDepth 100000 in
theorem kc_X10_342 : Cond.constantLong RX10 342 (999) ∈ gwl := gwl_in6 179 rfl rfl
set_option maxRecDepth 100000 in
theorem kc_X10_344 : Cond.constantLong RX10 344 (99) ∈ gwl := gwl_in6 180 rfl rfl
set_option maxRecDepth 100000 in
theorem kc_X10_358 : Cond.constantLong RX10 358 (12) ∈ gwl := gwl_in6 221 rfl rfl
set_option maxRecDepth 100000 in
theorem kc_X10_360 : Cond.constantLong RX10 360 (4) ∈ gwl := gwl_in6 222 rfl rfl
set_option maxRecDepth 100000 in
theorem kc_J6_265 : Cond.constant RJ6 265 (1431655765) ∈ gwl := gwl_in3 151 rfl rfl
set_option maxRecDepth 100000 in
theorem kc_J6_266 : Cond.constant RJ6 266 (858993459) ∈ gwl := gwl_in3 152 rfl rfl
set_option maxRecDepth 100000 in
theorem kc_J6_267 : Cond.constant RJ6 267 (252645135) ∈ gwl := gwl_in3 153 rfl rfl

