set_option maxRecDepth 100000 in
set_option maxHeartbeats 4000000 in
theorem w_X10_readTune_63 (L : Nat) (b : Bool) (h : Hp) (hB : Bx h) (rp0 : (h 63 17).toInt ≤ (h 63 16).toInt) (rp1 : (h 63 21).toInt = 0 → (h 63 19).toInt = 1 → 0 ≤ (h 63 20).toInt ∧ (h 63 20).toInt ≤ 4095) : EvK mi_X10_readTune [.ref 63] (G0 L b) h (fun z : Hp => ((z 63 21).toInt = 0 → (z 63 27).toInt ≤ 24)) [(63, 17), (63, 18), (63, 19), (63, 20), (63, 21), (63, 22), (63, 27), (63, 28), (63, 31), (75, 999), (76, 999), (77, 999)] := by
  refine EvM.of2 (lo := [some (.ref 63), none, none, none]) pf_X10_readTune ok_X10_readTune rfl rfl ?_
  have hJ0 : JW [(63, 17), (63, 18), (63, 19), (63, 20), (63, 21), (63, 22), (63, 27), (63, 28), (63, 31), (75, 999), (76, 999), (77, 999)] h h := JW.refl hB
  obtain ⟨f1, ef1⟩ : ∃ f_, h 63 16 = f_ := ⟨_, rfl⟩
  have bf1 : B f1 0 160 := by have z_ := hJ0.1 63 16; rw [ef1] at z_; exact z_
  have zf1 := congrArg Int32.toInt ef1
  obtain ⟨f2, ef2⟩ : ∃ f_, h 63 17 = f_ := ⟨_, rfl⟩
  have bf2 : B f2 0 160 := by have z_ := hJ0.1 63 17; rw [ef2] at z_; exact z_
  have zf2 := congrArg Int32.toInt ef2
  obtain ⟨f3, ef3⟩ : ∃ f_, h 63 21 = f_ := ⟨_, rfl⟩
  have bf3 : B f3 0 6 := by have z_ := hJ0.1 63 21; rw [ef3] at z_; exact z_
  have zf3 := congrArg Int32.toInt ef3
  obtain ⟨f4, ef4⟩ : ∃ f_, h 63 20 = f_ := ⟨_, rfl⟩
  have zf4 := congrArg Int32.toInt ef4
  obtain ⟨f5, ef5⟩ : ∃ f_, h 63 19 = f_ := ⟨_, rfl⟩
  have bf5 : B f5 0 3 := by have z_ := hJ0.1 63 19; rw [ef5] at z_; exact z_
  have zf5 := congrArg Int32.toInt ef5
  obtain ⟨f6, ef6⟩ : ∃ f_, h 63 27 = f_ := ⟨_, rfl⟩
  have bf6 : B f6 0 60 := by have z_ := hJ0.1 63 27; rw [ef6] at z_; exact z_
  have zf6 := congrArg Int32.toInt ef6
  obtain ⟨f7, ef7⟩ : ∃ f_, h 63 31 = f_ := ⟨_, rfl⟩
  have bf7 : B f7 0 4 := by have z_ := hJ0.1 63 31; rw [ef7] at z_; exact z_
  have zf7 := congrArg Int32.toInt ef7
  refine ev_iconst (v := 1) rfl rfl (by decide) ?_
  refine ev_istore_n rfl rfl rfl rfl ?_
  dsimp only [List.set]
  refine ev_aload_n rfl rfl rfl ?_
  refine ev_iconst (v := 0) rfl rfl (by decide) ?_
  refine ev_putW (l := 0) (u := 4) hJ0 rfl (by decide : B 0 0 0) (by decide) (by decide) rfl rfl rfl fl_X10_241 rfl rfl rfl rfl rfl (fun h8 hJ8 k8 => ?_)
  refine ev_aload_n rfl rfl rfl ?_
  refine ev_iconst (v := 0) rfl rfl (by decide) ?_
  refine ev_putW (l := 0) (u := 60) hJ8 rfl (by decide : B 0 0 0) (by decide) (by decide) rfl rfl rfl fl_X10_234 rfl rfl rfl rfl rfl (fun h9 hJ9 k9 => ?_)
  refine ev_aload_n rfl rfl rfl ?_
  refine ev_iconst (v := 0) rfl rfl (by decide) ?_
  refine ev_puzW (l := (-2147483648)) (u := 2147483647) hJ9 rfl ((by decide : B 0 0 0).mono (by decide) (by decide)) (by decide) (by decide) rfl rfl rfl fl_X10_237 rfl rfl rfl rfl rfl (fun h10 hJ10 k10 => ?_)
  refine ev_iconst (v := 1) rfl rfl (by decide) ?_
  refine ev_istore_n rfl rfl rfl rfl ?_
  dsimp only [List.set]
  have lp19_1158 : ∀ (n : Nat) (w1159 : Int32) (w1160 : Int32) (h1163 : Hp), B w1159 0 1 → B w1160 1 1 → JW [(63, 17), (63, 18), (63, 19), (63, 20), (63, 21), (63, 22), (63, 27), (63, 28), (63, 31), (75, 999), (76, 999), (77, 999)] h h1163 → (h1163 63 16 = f1) → (RM h1163) → ((h1163 63 17).toInt ≤ (h1163 63 16).toInt) → ((h1163 63 21).toInt = 0 → (h1163 63 19).toInt = 1 → 0 ≤ (h1163 63 20).toInt ∧ (h1163 63 20).toInt ≤ 4095) → mM (h1163 63 21) (h1163 63 17) (h1163 63 19) ≤ (n : Int) → EvQ mi_X10_readTune 19 [some (.ref 63), some (.int w1159), some (.int w1160), none] [] (G0 L b) h1163 0 0 (QK (fun z : Hp => ((z 63 21).toInt = 0 → (z 63 27).toInt ≤ 24)) [(63, 17), (63, 18), (63, 19), (63, 20), (63, 21), (63, 22), (63, 27), (63, 28), (63, 31), (75, 999), (76, 999), (77, 999)] (G0 L b) h) := by
    intro n
    induction n with
    | zero =>
      intro w1159 w1160 h1163 b1161 b1162 hJ1164 z1165 rm19 y19_0 y19_1 hm19
      exact absurd hm19 (by have z_ := mM_pos (h1163 63 21) (h1163 63 17) (h1163 63 19) (hJ1164.1 63 17); omega)
    | succ n ih19 =>
      intro w1159 w1160 h1163 b1161 b1162 hJ1164 z1165 rm19 y19_0 y19_1 hm19
      obtain ⟨f1166, ef1166⟩ : ∃ f_, h1163 63 17 = f_ := ⟨_, rfl⟩
      have bf1166 : B f1166 0 160 := by have z_ := hJ1164.1 63 17; rw [ef1166] at z_; exact z_
      have zf1166 := congrArg Int32.toInt ef1166
      obtain ⟨f1167, ef1167⟩ : ∃ f_, h1163 63 21 = f_ := ⟨_, rfl⟩
      have bf1167 : B f1167 0 6 := by have z_ := hJ1164.1 63 21; rw [ef1167] at z_; exact z_
      have zf1167 := congrArg Int32.toInt ef1167
      obtain ⟨f1168, ef1168⟩ : ∃ f_, h1163 63 20 = f_ := ⟨_, rfl⟩
      have zf1168 := congrArg Int32.toInt ef1168
      obtain ⟨f1169, ef1169⟩ : ∃ f_, h1163 63 19 = f_ := ⟨_, rfl⟩
      have bf1169 : B f1169 0 3 := by have z_ := hJ1164.1 63 19; rw [ef1169] at z_; exact z_
      have zf1169 := congrArg Int32.toInt ef1169
      obtain ⟨f1170, ef1170⟩ : ∃ f_, h1163 63 27 = f_ := ⟨_, rfl⟩
      have bf1170 : B f1170 0 60 := by have z_ := hJ1164.1 63 27; rw [ef1170] at z_; exact z_
      have zf1170 := congrArg Int32.toInt ef1170
      obtain ⟨f1171, ef1171⟩ : ∃ f_, h1163 63 31 = f_ := ⟨_, rfl⟩
      have bf1171 : B f1171 0 4 := by have z_ := hJ1164.1 63 31; rw [ef1171] at z_; exact z_
      have zf1171 := congrArg Int32.toInt ef1171
      have z1172 := congrArg Int32.toInt z1165
      refine ev_iload_n rfl rfl rfl ?_
      refine ev_if_eq rfl rfl (fun c1173 => absurd c1173 (D_ne b1162 (by decide : B 0 0 0) (by decide))) (fun c1173 => ?_)
      have z1174 := w_ne c1173
      rw [show (0 : Int32).toInt = 0 from by decide] at z1174
      refine ev_aload_n rfl rfl rfl ?_
      refine ev_getV (v := f1167) rfl rfl fl_X10_191 rfl rfl rfl ef1167 ?_
      refine ev_if_ne rfl rfl (fun c1175 => ?_) (fun c1175 => ?_)
      · have b1176 : B f1167 1 6 := R_neL bf1167 (by decide : B 0 0 0) c1175 (by decide)
        have z1177 := w_ne c1175
        rw [show (0 : Int32).toInt = 0 from by decide] at z1177
        refine ev_aload_n rfl rfl rfl ?_
        refine ev_getV (v := f1167) rfl rfl fl_X10_191 rfl rfl rfl ef1167 ?_
        refine ev_if_ne rfl rfl (fun c1180 => ?_) (fun c1180 => absurd c1180 (D_ne b1176 (by decide : B 0 0 0) (by decide)))
        have z1181 := w_ne c1180
        rw [show (0 : Int32).toInt = 0 from by decide] at z1181
        exact ev_vret rfl rfl trivial ⟨rfl, rfl, hJ1164, (by have z0_ := congrArg Int32.toInt ef1167; have z1_ := congrArg Int32.toInt ef1170; have z_ := w_lits; have zl_ := l_lits; omega)⟩
      · have b1178 : B f1167 0 0 := R_eqX bf1167 (by decide : B 0 0 0) c1175
        have z1179 := congrArg Int32.toInt c1175
        rw [show (0 : Int32).toInt = 0 from by decide] at z1179
        refine ev_aload_n rfl rfl rfl ?_
        refine ev_getV (v := f1169) rfl rfl fl_X10_204 rfl rfl rfl ef1169 ?_
        refine ev_iconst (v := 1) rfl rfl (by decide) ?_
        refine ev_icmp_eq rfl rfl (fun c1182 => ?_) (fun c1182 => ?_)
        · have b1183 : B f1169 1 1 := R_eqX bf1169 (by decide : B 1 1 1) c1182
          have z1184 := congrArg Int32.toInt c1182
          rw [show (1 : Int32).toInt = 1 from by decide] at z1184
          have rm1186 := rm19
          exact (w_rt47 L b h h1163 hJ1164 _ w1159 b1161 w1160 b1162 rm1186.1 rm1186.2.1 rm1186.2.2.1 rm1186.2.2.2 (by have z0_ := congrArg Int32.toInt z1165; have z1_ := congrArg Int32.toInt ef1166; have z_ := w_lits; have zl_ := l_lits; omega) (by have z0_ := congrArg Int32.toInt ef1167; have z1_ := congrArg Int32.toInt ef1168; have z2_ := congrArg Int32.toInt ef1169; have z_ := w_lits; have zl_ := l_lits; omega) (by have z0_ := congrArg Int32.toInt ef1167; have z_ := w_lits; have zl_ := l_lits; omega) (by have z0_ := congrArg Int32.toInt ef1169; have z_ := w_lits; have zl_ := l_lits; omega) (fun m1_ h_ b1_ j_ r0_ r1_ r2_ r3_ r4_ r5_ rd_ => ih19 m1_ w1160 h_ b1_ b1162 j_ ((j_.2 63 16 rfl).trans ef1) ⟨r0_, r1_, r2_, r3_⟩ r4_ r5_ (mM_dec hm19 (by have z0_ := congrArg Int32.toInt z1165; have z1_ := congrArg Int32.toInt ef1166; have z2_ := congrArg Int32.toInt ef1167; have z3_ := congrArg Int32.toInt ef1168; have z4_ := congrArg Int32.toInt ef1169; have z5_ := congrArg Int32.toInt ef1170; have z6_ := congrArg Int32.toInt ef1171; have z_ := w_lits; have zl_ := l_lits; omega) (by have z0_ := congrArg Int32.toInt z1165; have z1_ := congrArg Int32.toInt ef1166; have z2_ := congrArg Int32.toInt ef1167; have z3_ := congrArg Int32.toInt ef1168; have z4_ := congrArg Int32.toInt ef1169; have z5_ := congrArg Int32.toInt ef1170; have z6_ := congrArg Int32.toInt ef1171; have z_ := w_lits; have zl_ := l_lits; omega) (by have z0_ := congrArg Int32.toInt z1165; have z1_ := congrArg Int32.toInt ef1166; have z2_ := congrArg Int32.toInt ef1167; have z3_ := congrArg Int32.toInt ef1168; have z4_ := congrArg Int32.toInt ef1169; have z5_ := congrArg Int32.toInt ef1170; have z6_ := congrArg Int32.toInt ef1171; have z7_ := rd_; have z_ := w_lits; have zl_ := l_lits; omega))))
        · have z1185 := w_ne c1182
          rw [show (1 : Int32).toInt = 1 from by decide] at z1185
          refine ev_aload_n rfl rfl rfl ?_
          refine ev_bipush (v := 46) rfl rfl (by decide) ?_
          refine ev_V1P rfl rfl lk_X10_244 vt_X10_isSign rfl rfl rfl rfl rfl (w_X10_isSign_63 L b h1163 hJ1164.1 46) (fun r1187 q1187 => ?_)
          obtain ⟨b1187, pp1187_0⟩ := q1187
          refine ev_if_eq rfl rfl (fun c1188 => ?_) (fun c1188 => ?_)
          · have b1189 : B r1187 0 0 := R_eqX b1187 (by decide : B 0 0 0) c1188
            have z1190 := congrArg Int32.toInt c1188
            rw [show (0 : Int32).toInt = 0 from by decide] at z1190
            refine ev_aload_n rfl rfl rfl ?_
            refine ev_getV (v := f1169) rfl rfl fl_X10_204 rfl rfl rfl ef1169 ?_
            refine ev_iconst (v := 2) rfl rfl (by decide) ?_
            refine ev_icmp_ne rfl rfl (fun c1193 => ?_) (fun c1193 => ?_)
            · have z1194 := w_ne c1193
              rw [show (2 : Int32).toInt = 2 from by decide] at z1194
              refine ev_aload_n rfl rfl rfl ?_
              refine ev_bipush (v := 41) rfl rfl (by decide) ?_
              refine ev_V1P rfl rfl lk_X10_244 vt_X10_isSign rfl rfl rfl rfl rfl (w_X10_isSign_63 L b h1163 hJ1164.1 41) (fun r1197 q1197 => ?_)
              obtain ⟨b1197, pp1197_0⟩ := q1197
              refine ev_if_eq rfl rfl (fun c1198 => ?_) (fun c1198 => ?_)
              · have b1199 : B r1197 0 0 := R_eqX b1197 (by decide : B 0 0 0) c1198
                have z1200 := congrArg Int32.toInt c1198
                rw [show (0 : Int32).toInt = 0 from by decide] at z1200
                refine ev_aload_n rfl rfl rfl ?_
                refine ev_aload_n rfl rfl rfl ?_
                refine ev_getV (v := f1169) rfl rfl fl_X10_204 rfl rfl rfl ef1169 ?_
                refine ev_if_ne rfl rfl (fun c1203 => ?_) (fun c1203 => ?_)
                · have b1204 : B f1169 1 3 := R_neL bf1169 (by decide : B 0 0 0) c1203 (by decide)
                  have z1205 := w_ne c1203
                  rw [show (0 : Int32).toInt = 0 from by decide] at z1205
                  refine ev_iconst (v := 0) rfl rfl (by decide) ?_
                  refine ev_iconst (v := 2) rfl rfl (by decide) ?_
                  refine ev_V2K hJ1164 rfl rfl rfl lk_X10_230 vt_X10_wants rfl rfl rfl rfl rfl (w_X10_wants_63 L b h1163 hJ1164.1 0 ((by decide : B 0 0 0).mono (by decide) (by decide)) 2 ((by decide : B 2 2 2).mono (by decide) (by decide))) (fun h1208 hJ1208 k1208 m1208 => ?_)
                  obtain ⟨f1209, ef1209⟩ : ∃ f_, h1208 63 21 = f_ := ⟨_, rfl⟩
                  have bf1209 : B f1209 0 6 := by have z_ := hJ1208.1 63 21; rw [ef1209] at z_; exact z_
                  have zf1209 := congrArg Int32.toInt ef1209
                  refine ev_iconst (v := 0) rfl rfl (by decide) ?_
                  refine ev_istore_n rfl rfl rfl rfl ?_
                  dsimp only [List.set]
                  refine ev_goto rfl rfl ?_
                  refine ev_iload_n rfl rfl rfl ?_
                  refine ev_if_eq rfl rfl (fun c1210 => ?_) (fun c1210 => absurd (D_eq (by decide : B 0 0 0) (by decide : B 0 0 0)) c1210)
                  have z1211 := congrArg Int32.toInt c1210
                  rw [show (0 : Int32).toInt = 0 from by decide] at z1211
                  refine ev_aload_n rfl rfl rfl ?_
                  refine ev_getV (v := f1209) rfl rfl fl_X10_191 rfl rfl rfl ef1209 ?_
                  refine ev_if_ne rfl rfl (fun c1212 => ?_) (fun c1212 => ?_)
                  · have b1213 : B f1209 1 6 := R_neL bf1209 (by decide : B 0 0 0) c1212 (by decide)
                    have z1214 := w_ne c1212
                    rw [show (0 : Int32).toInt = 0 from by decide] at z1214
                    exact ev_vret rfl rfl trivial ⟨rfl, rfl, hJ1208, (by have z0_ := congrArg Int32.toInt ef1209; have z1_ := congrArg Int32.toInt (rd_w k1208 ef1170 rfl); have z_ := w_lits; have zl_ := l_lits; omega)⟩
                  · have b1215 : B f1209 0 0 := R_eqX bf1209 (by decide : B 0 0 0) c1212
                    have z1216 := congrArg Int32.toInt c1212
                    rw [show (0 : Int32).toInt = 0 from by decide] at z1216
                    refine ev_aload_n rfl rfl rfl ?_
                    refine ev_getW (l := (-2147483648)) (u := 2147483647) hJ1208.1 rfl rfl rfl fl_X10_237 rfl rfl rfl (fun v1217 b1217 e1217 => ?_)
                    refine ev_if_ne rfl rfl (fun c1218 => ?_) (fun c1218 => ?_)
                    · have z1219 := w_ne c1218
                      rw [show (0 : Int32).toInt = 0 from by decide] at z1219
                      refine ev_aload_n rfl rfl rfl ?_
                      refine ev_bipush (v := 6) rfl rfl (by decide) ?_
                      refine ev_iconst (v := 0) rfl rfl (by decide) ?_
                      refine ev_V2K hJ1208 rfl rfl rfl lk_X10_200 vt_X10_fails rfl rfl rfl rfl rfl (w_X10_fails_63 L b h1208 hJ1208.1 6 ((by decide : B 6 6 6).mono (by decide) (by decide)) 0) (fun h1222 hJ1222 k1222 m1222 => ?_)
                      obtain ⟨f1223, ef1223⟩ : ∃ f_, h1222 63 21 = f_ := ⟨_, rfl⟩
                      have bf1223 : B f1223 0 6 := by have z_ := hJ1222.1 63 21; rw [ef1223] at z_; exact z_
                      have zf1223 := congrArg Int32.toInt ef1223
                      exact ev_vret rfl rfl trivial ⟨rfl, rfl, hJ1222, (by have z0_ := congrArg Int32.toInt ef1223; have z1_ := congrArg Int32.toInt (rd_w k1222 (rd_w k1208 ef1170 rfl) rfl); have z_ := w_lits; have zl_ := l_lits; omega)⟩
                    · have b1220 : B v1217 0 0 := R_eqX (B.any v1217) (by decide : B 0 0 0) c1218
                      have z1221 := congrArg Int32.toInt c1218
                      rw [show (0 : Int32).toInt = 0 from by decide] at z1221
                      refine ev_aload_n rfl rfl rfl ?_
                      refine ev_getV (v := f1170) rfl rfl fl_X10_234 rfl rfl rfl (rd_w k1208 ef1170 rfl) ?_
                      refine ev_bipush (v := 24) rfl rfl (by decide) ?_
                      refine ev_icmp_le rfl rfl (fun c1224 => ?_) (fun c1224 => ?_)
                      · have b1225 : B f1170 0 24 := R_leX bf1170 (by decide : B 24 24 24) c1224 (by decide)
                        have z1226 := w_le c1224
                        rw [show (24 : Int32).toInt = 24 from by decide] at z1226
                        exact ev_vret rfl rfl trivial ⟨rfl, rfl, hJ1208, (by have z0_ := congrArg Int32.toInt ef1209; have z1_ := congrArg Int32.toInt (rd_w k1208 ef1170 rfl); have z_ := w_lits; have zl_ := l_lits; omega)⟩
                      · have b1227 : B f1170 25 60 := R_ltY (by decide : B 24 24 24) bf1170 (Int32.not_le.mp c1224) (by decide)
                        have z1228 := w_lt (Int32.not_le.mp c1224)
                        rw [show (24 : Int32).toInt = 24 from by decide] at z1228
                        refine ev_aload_n rfl rfl rfl ?_
                        refine ev_bipush (v := 6) rfl rfl (by decide) ?_
                        refine ev_iconst (v := 0) rfl rfl (by decide) ?_
                        refine ev_V2K hJ1208 rfl rfl rfl lk_X10_200 vt_X10_fails rfl rfl rfl rfl rfl (w_X10_fails_63 L b h1208 hJ1208.1 6 ((by decide : B 6 6 6).mono (by decide) (by decide)) 0) (fun h1229 hJ1229 k1229 m1229 => ?_)
                        obtain ⟨f1230, ef1230⟩ : ∃ f_, h1229 63 21 = f_ := ⟨_, rfl⟩
                        have bf1230 : B f1230 0 6 := by have z_ := hJ1229.1 63 21; rw [ef1230] at z_; exact z_
                        have zf1230 := congrArg Int32.toInt ef1230
                        exact ev_vret rfl rfl trivial ⟨rfl, rfl, hJ1229, (by have z0_ := congrArg Int32.toInt ef1230; have z1_ := congrArg Int32.toInt (rd_w k1229 (rd_w k1208 ef1170 rfl) rfl); have z_ := w_lits; have zl_ := l_lits; omega)⟩
                · have b1206 : B f1169 0 0 := R_eqX bf1169 (by decide : B 0 0 0) c1203
                  have z1207 := congrArg Int32.toInt c1203
                  rw [show (0 : Int32).toInt = 0 from by decide] at z1207
                  refine ev_aload_n rfl rfl rfl ?_
                  refine ev_getV (v := f1171) rfl rfl fl_X10_241 rfl rfl rfl ef1171 ?_
                  refine ev_if_ne rfl rfl (fun c1231 => ?_) (fun c1231 => ?_)
                  · have b1232 : B f1171 1 4 := R_neL bf1171 (by decide : B 0 0 0) c1231 (by decide)
                    have z1233 := w_ne c1231
                    rw [show (0 : Int32).toInt = 0 from by decide] at z1233
                    refine ev_iconst (v := 0) rfl rfl (by decide) ?_
                    refine ev_iconst (v := 2) rfl rfl (by decide) ?_
                    refine ev_V2K hJ1164 rfl rfl rfl lk_X10_230 vt_X10_wants rfl rfl rfl rfl rfl (w_X10_wants_63 L b h1163 hJ1164.1 0 ((by decide : B 0 0 0).mono (by decide) (by decide)) 2 ((by decide : B 2 2 2).mono (by decide) (by decide))) (fun h1236 hJ1236 k1236 m1236 => ?_)
                    obtain ⟨f1237, ef1237⟩ : ∃ f_, h1236 63 21 = f_ := ⟨_, rfl⟩
                    have bf1237 : B f1237 0 6 := by have z_ := hJ1236.1 63 21; rw [ef1237] at z_; exact z_
                    have zf1237 := congrArg Int32.toInt ef1237
                    refine ev_iconst (v := 0) rfl rfl (by decide) ?_
                    refine ev_istore_n rfl rfl rfl rfl ?_
                    dsimp only [List.set]
                    refine ev_goto rfl rfl ?_
                    refine ev_iload_n rfl rfl rfl ?_
                    refine ev_if_eq rfl rfl (fun c1238 => ?_) (fun c1238 => absurd (D_eq (by decide : B 0 0 0) (by decide : B 0 0 0)) c1238)
                    have z1239 := congrArg Int32.toInt c1238
                    rw [show (0 : Int32).toInt = 0 from by decide] at z1239
                    refine ev_aload_n rfl rfl rfl ?_
                    refine ev_getV (v := f1237) rfl rfl fl_X10_191 rfl rfl rfl ef1237 ?_
                    refine ev_if_ne rfl rfl (fun c1240 => ?_) (fun c1240 => ?_)
                    · have b1241 : B f1237 1 6 := R_neL bf1237 (by decide : B 0 0 0) c1240 (by decide)
                      have z1242 := w_ne c1240
                      rw [show (0 : Int32).toInt = 0 from by decide] at z1242
                      exact ev_vret rfl rfl trivial ⟨rfl, rfl, hJ1236, (by have z0_ := congrArg Int32.toInt ef1237; have z1_ := congrArg Int32.toInt (rd_w k1236 ef1170 rfl); have z_ := w_lits; have zl_ := l_lits; omega)⟩
                    · have b1243 : B f1237 0 0 := R_eqX bf1237 (by decide : B 0 0 0) c1240
                      have z1244 := congrArg Int32.toInt c1240
                      rw [show (0 : Int32).toInt = 0 from by decide] at z1244
                      refine ev_aload_n rfl rfl rfl ?_
                      refine ev_getW (l := (-2147483648)) (u := 2147483647) hJ1236.1 rfl rfl rfl fl_X10_237 rfl rfl rfl (fun v1245 b1245 e1245 => ?_)
                      refine ev_if_ne rfl rfl (fun c1246 => ?_) (fun c1246 => ?_)
                      · have z1247 := w_ne c1246
                        rw [show (0 : Int32).toInt = 0 from by decide] at z1247
                        refine ev_aload_n rfl rfl rfl ?_
                        refine ev_bipush (v := 6) rfl rfl (by decide) ?_
                        refine ev_iconst (v := 0) rfl rfl (by decide) ?_
                        refine ev_V2K hJ1236 rfl rfl rfl lk_X10_200 vt_X10_fails rfl rfl rfl rfl rfl (w_X10_fails_63 L b h1236 hJ1236.1 6 ((by decide : B 6 6 6).mono (by decide) (by decide)) 0) (fun h1250 hJ1250 k1250 m1250 => ?_)
                        obtain ⟨f1251, ef1251⟩ : ∃ f_, h1250 63 21 = f_ := ⟨_, rfl⟩
                        have bf1251 : B f1251 0 6 := by have z_ := hJ1250.1 63 21; rw [ef1251] at z_; exact z_
                        have zf1251 := congrArg Int32.toInt ef1251
                        exact ev_vret rfl rfl trivial ⟨rfl, rfl, hJ1250, (by have z0_ := congrArg Int32.toInt ef1251; have z1_ := congrArg Int32.toInt (rd_w k1250 (rd_w k1236 ef1170 rfl) rfl); have z_ := w_lits; have zl_ := l_lits; omega)⟩
                      · have b1248 : B v1245 0 0 := R_eqX (B.any v1245) (by decide : B 0 0 0) c1246
                        have z1249 := congrArg Int32.toInt c1246
                        rw [show (0 : Int32).toInt = 0 from by decide] at z1249
                        refine ev_aload_n rfl rfl rfl ?_
                        refine ev_getV (v := f1170) rfl rfl fl_X10_234 rfl rfl rfl (rd_w k1236 ef1170 rfl) ?_
                        refine ev_bipush (v := 24) rfl rfl (by decide) ?_
                        refine ev_icmp_le rfl rfl (fun c1252 => ?_) (fun c1252 => ?_)
                        · have b1253 : B f1170 0 24 := R_leX bf1170 (by decide : B 24 24 24) c1252 (by decide)
                          have z1254 := w_le c1252
                          rw [show (24 : Int32).toInt = 24 from by decide] at z1254
                          exact ev_vret rfl rfl trivial ⟨rfl, rfl, hJ1236, (by have z0_ := congrArg Int32.toInt ef1237; have z1_ := congrArg Int32.toInt (rd_w k1236 ef1170 rfl); have z_ := w_lits; have zl_ := l_lits; omega)⟩
                        · have b1255 : B f1170 25 60 := R_ltY (by decide : B 24 24 24) bf1170 (Int32.not_le.mp c1252) (by decide)
                          have z1256 := w_lt (Int32.not_le.mp c1252)
                          rw [show (24 : Int32).toInt = 24 from by decide] at z1256
                          refine ev_aload_n rfl rfl rfl ?_
                          refine ev_bipush (v := 6) rfl rfl (by decide) ?_
                          refine ev_iconst (v := 0) rfl rfl (by decide) ?_
                          refine ev_V2K hJ1236 rfl rfl rfl lk_X10_200 vt_X10_fails rfl rfl rfl rfl rfl (w_X10_fails_63 L b h1236 hJ1236.1 6 ((by decide : B 6 6 6).mono (by decide) (by decide)) 0) (fun h1257 hJ1257 k1257 m1257 => ?_)
                          obtain ⟨f1258, ef1258⟩ : ∃ f_, h1257 63 21 = f_ := ⟨_, rfl⟩
                          have bf1258 : B f1258 0 6 := by have z_ := hJ1257.1 63 21; rw [ef1258] at z_; exact z_
                          have zf1258 := congrArg Int32.toInt ef1258
                          exact ev_vret rfl rfl trivial ⟨rfl, rfl, hJ1257, (by have z0_ := congrArg Int32.toInt ef1258; have z1_ := congrArg Int32.toInt (rd_w k1257 (rd_w k1236 ef1170 rfl) rfl); have z_ := w_lits; have zl_ := l_lits; omega)⟩
                  · have b1234 : B f1171 0 0 := R_eqX bf1171 (by decide : B 0 0 0) c1231
                    have z1235 := congrArg Int32.toInt c1231
                    rw [show (0 : Int32).toInt = 0 from by decide] at z1235
                    refine ev_iload_n rfl rfl rfl ?_
                    refine ev_if_ne rfl rfl (fun c1259 => ?_) (fun c1259 => ?_)
                    · have b1260 : B w1159 1 1 := R_neL b1161 (by decide : B 0 0 0) c1259 (by decide)
                      have z1261 := w_ne c1259
                      rw [show (0 : Int32).toInt = 0 from by decide] at z1261
                      refine ev_iconst (v := 0) rfl rfl (by decide) ?_
                      refine ev_iconst (v := 2) rfl rfl (by decide) ?_
                      refine ev_V2K hJ1164 rfl rfl rfl lk_X10_230 vt_X10_wants rfl rfl rfl rfl rfl (w_X10_wants_63 L b h1163 hJ1164.1 0 ((by decide : B 0 0 0).mono (by decide) (by decide)) 2 ((by decide : B 2 2 2).mono (by decide) (by decide))) (fun h1264 hJ1264 k1264 m1264 => ?_)
                      obtain ⟨f1265, ef1265⟩ : ∃ f_, h1264 63 21 = f_ := ⟨_, rfl⟩
                      have bf1265 : B f1265 0 6 := by have z_ := hJ1264.1 63 21; rw [ef1265] at z_; exact z_
                      have zf1265 := congrArg Int32.toInt ef1265
                      refine ev_iconst (v := 0) rfl rfl (by decide) ?_
                      refine ev_istore_n rfl rfl rfl rfl ?_
                      dsimp only [List.set]
                      refine ev_goto rfl rfl ?_
                      refine ev_iload_n rfl rfl rfl ?_
                      refine ev_if_eq rfl rfl (fun c1266 => ?_) (fun c1266 => absurd (D_eq (by decide : B 0 0 0) (by decide : B 0 0 0)) c1266)
                      have z1267 := congrArg Int32.toInt c1266
                      rw [show (0 : Int32).toInt = 0 from by decide] at z1267
                      refine ev_aload_n rfl rfl rfl ?_
                      refine ev_getV (v := f1265) rfl rfl fl_X10_191 rfl rfl rfl ef1265 ?_
                      refine ev_if_ne rfl rfl (fun c1268 => ?_) (fun c1268 => ?_)
                      · have b1269 : B f1265 1 6 := R_neL bf1265 (by decide : B 0 0 0) c1268 (by decide)
                        have z1270 := w_ne c1268
                        rw [show (0 : Int32).toInt = 0 from by decide] at z1270
                        exact ev_vret rfl rfl trivial ⟨rfl, rfl, hJ1264, (by have z0_ := congrArg Int32.toInt ef1265; have z1_ := congrArg Int32.toInt (rd_w k1264 ef1170 rfl); have z_ := w_lits; have zl_ := l_lits; omega)⟩
                      · have b1271 : B f1265 0 0 := R_eqX bf1265 (by decide : B 0 0 0) c1268
                        have z1272 := congrArg Int32.toInt c1268
                        rw [show (0 : Int32).toInt = 0 from by decide] at z1272
                        refine ev_aload_n rfl rfl rfl ?_
                        refine ev_getW (l := (-2147483648)) (u := 2147483647) hJ1264.1 rfl rfl rfl fl_X10_237 rfl rfl rfl (fun v1273 b1273 e1273 => ?_)
                        refine ev_if_ne rfl rfl (fun c1274 => ?_) (fun c1274 => ?_)
                        · have z1275 := w_ne c1274
                          rw [show (0 : Int32).toInt = 0 from by decide] at z1275
                          refine ev_aload_n rfl rfl rfl ?_
                          refine ev_bipush (v := 6) rfl rfl (by decide) ?_
                          refine ev_iconst (v := 0) rfl rfl (by decide) ?_
                          refine ev_V2K hJ1264 rfl rfl rfl lk_X10_200 vt_X10_fails rfl rfl rfl rfl rfl (w_X10_fails_63 L b h1264 hJ1264.1 6 ((by decide : B 6 6 6).mono (by decide) (by decide)) 0) (fun h1278 hJ1278 k1278 m1278 => ?_)
                          obtain ⟨f1279, ef1279⟩ : ∃ f_, h1278 63 21 = f_ := ⟨_, rfl⟩
                          have bf1279 : B f1279 0 6 := by have z_ := hJ1278.1 63 21; rw [ef1279] at z_; exact z_
                          have zf1279 := congrArg Int32.toInt ef1279
                          exact ev_vret rfl rfl trivial ⟨rfl, rfl, hJ1278, (by have z0_ := congrArg Int32.toInt ef1279; have z1_ := congrArg Int32.toInt (rd_w k1278 (rd_w k1264 ef1170 rfl) rfl); have z_ := w_lits; have zl_ := l_lits; omega)⟩
                        · have b1276 : B v1273 0 0 := R_eqX (B.any v1273) (by decide : B 0 0 0) c1274
                          have z1277 := congrArg Int32.toInt c1274
                          rw [show (0 : Int32).toInt = 0 from by decide] at z1277
                          refine ev_aload_n rfl rfl rfl ?_
                          refine ev_getV (v := f1170) rfl rfl fl_X10_234 rfl rfl rfl (rd_w k1264 ef1170 rfl) ?_
                          refine ev_bipush (v := 24) rfl rfl (by decide) ?_
                          refine ev_icmp_le rfl rfl (fun c1280 => ?_) (fun c1280 => ?_)
                          · have b1281 : B f1170 0 24 := R_leX bf1170 (by decide : B 24 24 24) c1280 (by decide)
                            have z1282 := w_le c1280
                            rw [show (24 : Int32).toInt = 24 from by decide] at z1282
                            exact ev_vret rfl rfl trivial ⟨rfl, rfl, hJ1264, (by have z0_ := congrArg Int32.toInt ef1265; have z1_ := congrArg Int32.toInt (rd_w k1264 ef1170 rfl); have z_ := w_lits; have zl_ := l_lits; omega)⟩
                          · have b1283 : B f1170 25 60 := R_ltY (by decide : B 24 24 24) bf1170 (Int32.not_le.mp c1280) (by decide)
                            have z1284 := w_lt (Int32.not_le.mp c1280)
                            rw [show (24 : Int32).toInt = 24 from by decide] at z1284
                            refine ev_aload_n rfl rfl rfl ?_
                            refine ev_bipush (v := 6) rfl rfl (by decide) ?_
                            refine ev_iconst (v := 0) rfl rfl (by decide) ?_
                            refine ev_V2K hJ1264 rfl rfl rfl lk_X10_200 vt_X10_fails rfl rfl rfl rfl rfl (w_X10_fails_63 L b h1264 hJ1264.1 6 ((by decide : B 6 6 6).mono (by decide) (by decide)) 0) (fun h1285 hJ1285 k1285 m1285 => ?_)
                            obtain ⟨f1286, ef1286⟩ : ∃ f_, h1285 63 21 = f_ := ⟨_, rfl⟩
                            have bf1286 : B f1286 0 6 := by have z_ := hJ1285.1 63 21; rw [ef1286] at z_; exact z_
                            have zf1286 := congrArg Int32.toInt ef1286
                            exact ev_vret rfl rfl trivial ⟨rfl, rfl, hJ1285, (by have z0_ := congrArg Int32.toInt ef1286; have z1_ := congrArg Int32.toInt (rd_w k1285 (rd_w k1264 ef1170 rfl) rfl); have z_ := w_lits; have zl_ := l_lits; omega)⟩
                    · have b1262 : B w1159 0 0 := R_eqX b1161 (by decide : B 0 0 0) c1259
                      have z1263 := congrArg Int32.toInt c1259
                      rw [show (0 : Int32).toInt = 0 from by decide] at z1263
                      refine ev_iconst (v := 1) rfl rfl (by decide) ?_
                      refine ev_goto rfl rfl ?_
                      refine ev_iconst (v := 2) rfl rfl (by decide) ?_
                      refine ev_V2K hJ1164 rfl rfl rfl lk_X10_230 vt_X10_wants rfl rfl rfl rfl rfl (w_X10_wants_63 L b h1163 hJ1164.1 1 ((by decide : B 1 1 1).mono (by decide) (by decide)) 2 ((by decide : B 2 2 2).mono (by decide) (by decide))) (fun h1287 hJ1287 k1287 m1287 => ?_)
                      obtain ⟨f1288, ef1288⟩ : ∃ f_, h1287 63 21 = f_ := ⟨_, rfl⟩
                      have bf1288 : B f1288 0 6 := by have z_ := hJ1287.1 63 21; rw [ef1288] at z_; exact z_
                      have zf1288 := congrArg Int32.toInt ef1288
                      refine ev_iconst (v := 0) rfl rfl (by decide) ?_
                      refine ev_istore_n rfl rfl rfl rfl ?_
                      dsimp only [List.set]
                      refine ev_goto rfl rfl ?_
                      refine ev_iload_n rfl rfl rfl ?_
                      refine ev_if_eq rfl rfl (fun c1289 => ?_) (fun c1289 => absurd (D_eq (by decide : B 0 0 0) (by decide : B 0 0 0)) c1289)
                      have z1290 := congrArg Int32.toInt c1289
                      rw [show (0 : Int32).toInt = 0 from by decide] at z1290
                      refine ev_aload_n rfl rfl rfl ?_
                      refine ev_getV (v := f1288) rfl rfl fl_X10_191 rfl rfl rfl ef1288 ?_
                      refine ev_if_ne rfl rfl (fun c1291 => ?_) (fun c1291 => ?_)
                      · have b1292 : B f1288 1 6 := R_neL bf1288 (by decide : B 0 0 0) c1291 (by decide)
                        have z1293 := w_ne c1291
                        rw [show (0 : Int32).toInt = 0 from by decide] at z1293
                        exact ev_vret rfl rfl trivial ⟨rfl, rfl, hJ1287, (by have z0_ := congrArg Int32.toInt ef1288; have z1_ := congrArg Int32.toInt (rd_w k1287 ef1170 rfl); have z_ := w_lits; have zl_ := l_lits; omega)⟩
                      · have b1294 : B f1288 0 0 := R_eqX bf1288 (by decide : B 0 0 0) c1291
                        have z1295 := congrArg Int32.toInt c1291
                        rw [show (0 : Int32).toInt = 0 from by decide] at z1295
                        refine ev_aload_n rfl rfl rfl ?_
                        refine ev_getW (l := (-2147483648)) (u := 2147483647) hJ1287.1 rfl rfl rfl fl_X10_237 rfl rfl rfl (fun v1296 b1296 e1296 => ?_)
                        refine ev_if_ne rfl rfl (fun c1297 => ?_) (fun c1297 => ?_)
                        · have z1298 := w_ne c1297
                          rw [show (0 : Int32).toInt = 0 from by decide] at z1298
                          refine ev_aload_n rfl rfl rfl ?_
                          refine ev_bipush (v := 6) rfl rfl (by decide) ?_
                          refine ev_iconst (v := 0) rfl rfl (by decide) ?_
                          refine ev_V2K hJ1287 rfl rfl rfl lk_X10_200 vt_X10_fails rfl rfl rfl rfl rfl (w_X10_fails_63 L b h1287 hJ1287.1 6 ((by decide : B 6 6 6).mono (by decide) (by decide)) 0) (fun h1301 hJ1301 k1301 m1301 => ?_)
                          obtain ⟨f1302, ef1302⟩ : ∃ f_, h1301 63 21 = f_ := ⟨_, rfl⟩
                          have bf1302 : B f1302 0 6 := by have z_ := hJ1301.1 63 21; rw [ef1302] at z_; exact z_
                          have zf1302 := congrArg Int32.toInt ef1302
                          exact ev_vret rfl rfl trivial ⟨rfl, rfl, hJ1301, (by have z0_ := congrArg Int32.toInt ef1302; have z1_ := congrArg Int32.toInt (rd_w k1301 (rd_w k1287 ef1170 rfl) rfl); have z_ := w_lits; have zl_ := l_lits; omega)⟩
                        · have b1299 : B v1296 0 0 := R_eqX (B.any v1296) (by decide : B 0 0 0) c1297
                          have z1300 := congrArg Int32.toInt c1297
                          rw [show (0 : Int32).toInt = 0 from by decide] at z1300
                          refine ev_aload_n rfl rfl rfl ?_
                          refine ev_getV (v := f1170) rfl rfl fl_X10_234 rfl rfl rfl (rd_w k1287 ef1170 rfl) ?_
                          refine ev_bipush (v := 24) rfl rfl (by decide) ?_
                          refine ev_icmp_le rfl rfl (fun c1303 => ?_) (fun c1303 => ?_)
                          · have b1304 : B f1170 0 24 := R_leX bf1170 (by decide : B 24 24 24) c1303 (by decide)
                            have z1305 := w_le c1303
                            rw [show (24 : Int32).toInt = 24 from by decide] at z1305
                            exact ev_vret rfl rfl trivial ⟨rfl, rfl, hJ1287, (by have z0_ := congrArg Int32.toInt ef1288; have z1_ := congrArg Int32.toInt (rd_w k1287 ef1170 rfl); have z_ := w_lits; have zl_ := l_lits; omega)⟩
                          · have b1306 : B f1170 25 60 := R_ltY (by decide : B 24 24 24) bf1170 (Int32.not_le.mp c1303) (by decide)
                            have z1307 := w_lt (Int32.not_le.mp c1303)
                            rw [show (24 : Int32).toInt = 24 from by decide] at z1307
                            refine ev_aload_n rfl rfl rfl ?_
                            refine ev_bipush (v := 6) rfl rfl (by decide) ?_
                            refine ev_iconst (v := 0) rfl rfl (by decide) ?_
                            refine ev_V2K hJ1287 rfl rfl rfl lk_X10_200 vt_X10_fails rfl rfl rfl rfl rfl (w_X10_fails_63 L b h1287 hJ1287.1 6 ((by decide : B 6 6 6).mono (by decide) (by decide)) 0) (fun h1308 hJ1308 k1308 m1308 => ?_)
                            obtain ⟨f1309, ef1309⟩ : ∃ f_, h1308 63 21 = f_ := ⟨_, rfl⟩
                            have bf1309 : B f1309 0 6 := by have z_ := hJ1308.1 63 21; rw [ef1309] at z_; exact z_
                            have zf1309 := congrArg Int32.toInt ef1309
                            exact ev_vret rfl rfl trivial ⟨rfl, rfl, hJ1308, (by have z0_ := congrArg Int32.toInt ef1309; have z1_ := congrArg Int32.toInt (rd_w k1308 (rd_w k1287 ef1170 rfl) rfl); have z_ := w_lits; have zl_ := l_lits; omega)⟩
              · have b1201 : B r1197 1 1 := R_neL b1197 (by decide : B 0 0 0) c1198 (by decide)
                have z1202 := w_ne c1198
                rw [show (0 : Int32).toInt = 0 from by decide] at z1202
                refine ev_aload_n rfl rfl rfl ?_
                refine ev_getV (v := f1171) rfl rfl fl_X10_241 rfl rfl rfl ef1171 ?_
                refine ev_if_le rfl rfl (fun c1310 => ?_) (fun c1310 => ?_)
                · have b1311 : B f1171 0 0 := R_leX bf1171 (by decide : B 0 0 0) c1310 (by decide)
                  have z1312 := w_le c1310
                  rw [show (0 : Int32).toInt = 0 from by decide] at z1312
                  refine ev_aload_n rfl rfl rfl ?_
                  refine ev_aload_n rfl rfl rfl ?_
                  refine ev_getV (v := f1169) rfl rfl fl_X10_204 rfl rfl rfl ef1169 ?_
                  refine ev_if_ne rfl rfl (fun c1315 => ?_) (fun c1315 => ?_)
                  · have b1316 : B f1169 1 3 := R_neL bf1169 (by decide : B 0 0 0) c1315 (by decide)
                    have z1317 := w_ne c1315
                    rw [show (0 : Int32).toInt = 0 from by decide] at z1317
                    refine ev_iconst (v := 0) rfl rfl (by decide) ?_
                    refine ev_iconst (v := 2) rfl rfl (by decide) ?_
                    refine ev_V2K hJ1164 rfl rfl rfl lk_X10_230 vt_X10_wants rfl rfl rfl rfl rfl (w_X10_wants_63 L b h1163 hJ1164.1 0 ((by decide : B 0 0 0).mono (by decide) (by decide)) 2 ((by decide : B 2 2 2).mono (by decide) (by decide))) (fun h1320 hJ1320 k1320 m1320 => ?_)
                    obtain ⟨f1321, ef1321⟩ : ∃ f_, h1320 63 21 = f_ := ⟨_, rfl⟩
                    have bf1321 : B f1321 0 6 := by have z_ := hJ1320.1 63 21; rw [ef1321] at z_; exact z_
                    have zf1321 := congrArg Int32.toInt ef1321
                    refine ev_iconst (v := 0) rfl rfl (by decide) ?_
                    refine ev_istore_n rfl rfl rfl rfl ?_
                    dsimp only [List.set]
                    refine ev_goto rfl rfl ?_
                    refine ev_iload_n rfl rfl rfl ?_
                    refine ev_if_eq rfl rfl (fun c1322 => ?_) (fun c1322 => absurd (D_eq (by decide : B 0 0 0) (by decide : B 0 0 0)) c1322)
                    have z1323 := congrArg Int32.toInt c1322
                    rw [show (0 : Int32).toInt = 0 from by decide] at z1323
                    refine ev_aload_n rfl rfl rfl ?_
                    refine ev_getV (v := f1321) rfl rfl fl_X10_191 rfl rfl rfl ef1321 ?_
                    refine ev_if_ne rfl rfl (fun c1324 => ?_) (fun c1324 => ?_)
                    · have b1325 : B f1321 1 6 := R_neL bf1321 (by decide : B 0 0 0) c1324 (by decide)
                      have z1326 := w_ne c1324
                      rw [show (0 : Int32).toInt = 0 from by decide] at z1326
                      exact ev_vret rfl rfl trivial ⟨rfl, rfl, hJ1320, (by have z0_ := congrArg Int32.toInt ef1321; have z1_ := congrArg Int32.toInt (rd_w k1320 ef1170 rfl); have z_ := w_lits; have zl_ := l_lits; omega)⟩
                    · have b1327 : B f1321 0 0 := R_eqX bf1321 (by decide : B 0 0 0) c1324
                      have z1328 := congrArg Int32.toInt c1324
                      rw [show (0 : Int32).toInt = 0 from by decide] at z1328
                      refine ev_aload_n rfl rfl rfl ?_
                      refine ev_getW (l := (-2147483648)) (u := 2147483647) hJ1320.1 rfl rfl rfl fl_X10_237 rfl rfl rfl (fun v1329 b1329 e1329 => ?_)
                      refine ev_if_ne rfl rfl (fun c1330 => ?_) (fun c1330 => ?_)
                      · have z1331 := w_ne c1330
                        rw [show (0 : Int32).toInt = 0 from by decide] at z1331
                        refine ev_aload_n rfl rfl rfl ?_
                        refine ev_bipush (v := 6) rfl rfl (by decide) ?_
                        refine ev_iconst (v := 0) rfl rfl (by decide) ?_
                        refine ev_V2K hJ1320 rfl rfl rfl lk_X10_200 vt_X10_fails rfl rfl rfl rfl rfl (w_X10_fails_63 L b h1320 hJ1320.1 6 ((by decide : B 6 6 6).mono (by decide) (by decide)) 0) (fun h1334 hJ1334 k1334 m1334 => ?_)
                        obtain ⟨f1335, ef1335⟩ : ∃ f_, h1334 63 21 = f_ := ⟨_, rfl⟩
                        have bf1335 : B f1335 0 6 := by have z_ := hJ1334.1 63 21; rw [ef1335] at z_; exact z_
                        have zf1335 := congrArg Int32.toInt ef1335
                        exact ev_vret rfl rfl trivial ⟨rfl, rfl, hJ1334, (by have z0_ := congrArg Int32.toInt ef1335; have z1_ := congrArg Int32.toInt (rd_w k1334 (rd_w k1320 ef1170 rfl) rfl); have z_ := w_lits; have zl_ := l_lits; omega)⟩
                      · have b1332 : B v1329 0 0 := R_eqX (B.any v1329) (by decide : B 0 0 0) c1330
                        have z1333 := congrArg Int32.toInt c1330
                        rw [show (0 : Int32).toInt = 0 from by decide] at z1333
                        refine ev_aload_n rfl rfl rfl ?_
                        refine ev_getV (v := f1170) rfl rfl fl_X10_234 rfl rfl rfl (rd_w k1320 ef1170 rfl) ?_
                        refine ev_bipush (v := 24) rfl rfl (by decide) ?_
                        refine ev_icmp_le rfl rfl (fun c1336 => ?_) (fun c1336 => ?_)
                        · have b1337 : B f1170 0 24 := R_leX bf1170 (by decide : B 24 24 24) c1336 (by decide)
                          have z1338 := w_le c1336
                          rw [show (24 : Int32).toInt = 24 from by decide] at z1338
                          exact ev_vret rfl rfl trivial ⟨rfl, rfl, hJ1320, (by have z0_ := congrArg Int32.toInt ef1321; have z1_ := congrArg Int32.toInt (rd_w k1320 ef1170 rfl); have z_ := w_lits; have zl_ := l_lits; omega)⟩
                        · have b1339 : B f1170 25 60 := R_ltY (by decide : B 24 24 24) bf1170 (Int32.not_le.mp c1336) (by decide)
                          have z1340 := w_lt (Int32.not_le.mp c1336)
                          rw [show (24 : Int32).toInt = 24 from by decide] at z1340
                          refine ev_aload_n rfl rfl rfl ?_
                          refine ev_bipush (v := 6) rfl rfl (by decide) ?_
                          refine ev_iconst (v := 0) rfl rfl (by decide) ?_
                          refine ev_V2K hJ1320 rfl rfl rfl lk_X10_200 vt_X10_fails rfl rfl rfl rfl rfl (w_X10_fails_63 L b h1320 hJ1320.1 6 ((by decide : B 6 6 6).mono (by decide) (by decide)) 0) (fun h1341 hJ1341 k1341 m1341 => ?_)
                          obtain ⟨f1342, ef1342⟩ : ∃ f_, h1341 63 21 = f_ := ⟨_, rfl⟩
                          have bf1342 : B f1342 0 6 := by have z_ := hJ1341.1 63 21; rw [ef1342] at z_; exact z_
                          have zf1342 := congrArg Int32.toInt ef1342
                          exact ev_vret rfl rfl trivial ⟨rfl, rfl, hJ1341, (by have z0_ := congrArg Int32.toInt ef1342; have z1_ := congrArg Int32.toInt (rd_w k1341 (rd_w k1320 ef1170 rfl) rfl); have z_ := w_lits; have zl_ := l_lits; omega)⟩
                  · have b1318 : B f1169 0 0 := R_eqX bf1169 (by decide : B 0 0 0) c1315
                    have z1319 := congrArg Int32.toInt c1315
                    rw [show (0 : Int32).toInt = 0 from by decide] at z1319
                    refine ev_aload_n rfl rfl rfl ?_
                    refine ev_getV (v := f1171) rfl rfl fl_X10_241 rfl rfl rfl ef1171 ?_
                    refine ev_if_ne rfl rfl (fun c1343 => absurd (D_eq b1311 (by decide : B 0 0 0)) c1343) (fun c1343 => ?_)
                    have z1344 := congrArg Int32.toInt c1343
                    rw [show (0 : Int32).toInt = 0 from by decide] at z1344
                    refine ev_iload_n rfl rfl rfl ?_
                    refine ev_if_ne rfl rfl (fun c1345 => ?_) (fun c1345 => ?_)
                    · have b1346 : B w1159 1 1 := R_neL b1161 (by decide : B 0 0 0) c1345 (by decide)
                      have z1347 := w_ne c1345
                      rw [show (0 : Int32).toInt = 0 from by decide] at z1347
                      refine ev_iconst (v := 0) rfl rfl (by decide) ?_
                      refine ev_iconst (v := 2) rfl rfl (by decide) ?_
                      refine ev_V2K hJ1164 rfl rfl rfl lk_X10_230 vt_X10_wants rfl rfl rfl rfl rfl (w_X10_wants_63 L b h1163 hJ1164.1 0 ((by decide : B 0 0 0).mono (by decide) (by decide)) 2 ((by decide : B 2 2 2).mono (by decide) (by decide))) (fun h1350 hJ1350 k1350 m1350 => ?_)
                      obtain ⟨f1351, ef1351⟩ : ∃ f_, h1350 63 21 = f_ := ⟨_, rfl⟩
                      have bf1351 : B f1351 0 6 := by have z_ := hJ1350.1 63 21; rw [ef1351] at z_; exact z_
                      have zf1351 := congrArg Int32.toInt ef1351
                      refine ev_iconst (v := 0) rfl rfl (by decide) ?_
                      refine ev_istore_n rfl rfl rfl rfl ?_
                      dsimp only [List.set]
                      refine ev_goto rfl rfl ?_
                      refine ev_iload_n rfl rfl rfl ?_
                      refine ev_if_eq rfl rfl (fun c1352 => ?_) (fun c1352 => absurd (D_eq (by decide : B 0 0 0) (by decide : B 0 0 0)) c1352)
                      have z1353 := congrArg Int32.toInt c1352
                      rw [show (0 : Int32).toInt = 0 from by decide] at z1353
                      refine ev_aload_n rfl rfl rfl ?_
                      refine ev_getV (v := f1351) rfl rfl fl_X10_191 rfl rfl rfl ef1351 ?_
                      refine ev_if_ne rfl rfl (fun c1354 => ?_) (fun c1354 => ?_)
                      · have b1355 : B f1351 1 6 := R_neL bf1351 (by decide : B 0 0 0) c1354 (by decide)
                        have z1356 := w_ne c1354
                        rw [show (0 : Int32).toInt = 0 from by decide] at z1356
                        exact ev_vret rfl rfl trivial ⟨rfl, rfl, hJ1350, (by have z0_ := congrArg Int32.toInt ef1351; have z1_ := congrArg Int32.toInt (rd_w k1350 ef1170 rfl); have z_ := w_lits; have zl_ := l_lits; omega)⟩
                      · have b1357 : B f1351 0 0 := R_eqX bf1351 (by decide : B 0 0 0) c1354
                        have z1358 := congrArg Int32.toInt c1354
                        rw [show (0 : Int32).toInt = 0 from by decide] at z1358
                        refine ev_aload_n rfl rfl rfl ?_
                        refine ev_getW (l := (-2147483648)) (u := 2147483647) hJ1350.1 rfl rfl rfl fl_X10_237 rfl rfl rfl (fun v1359 b1359 e1359 => ?_)
                        refine ev_if_ne rfl rfl (fun c1360 => ?_) (fun c1360 => ?_)
                        · have z1361 := w_ne c1360
                          rw [show (0 : Int32).toInt = 0 from by decide] at z1361
                          refine ev_aload_n rfl rfl rfl ?_
                          refine ev_bipush (v := 6) rfl rfl (by decide) ?_
                          refine ev_iconst (v := 0) rfl rfl (by decide) ?_
                          refine ev_V2K hJ1350 rfl rfl rfl lk_X10_200 vt_X10_fails rfl rfl rfl rfl rfl (w_X10_fails_63 L b h1350 hJ1350.1 6 ((by decide : B 6 6 6).mono (by decide) (by decide)) 0) (fun h1364 hJ1364 k1364 m1364 => ?_)
                          obtain ⟨f1365, ef1365⟩ : ∃ f_, h1364 63 21 = f_ := ⟨_, rfl⟩
                          have bf1365 : B f1365 0 6 := by have z_ := hJ1364.1 63 21; rw [ef1365] at z_; exact z_
                          have zf1365 := congrArg Int32.toInt ef1365
                          exact ev_vret rfl rfl trivial ⟨rfl, rfl, hJ1364, (by have z0_ := congrArg Int32.toInt ef1365; have z1_ := congrArg Int32.toInt (rd_w k1364 (rd_w k1350 ef1170 rfl) rfl); have z_ := w_lits; have zl_ := l_lits; omega)⟩
                        · have b1362 : B v1359 0 0 := R_eqX (B.any v1359) (by decide : B 0 0 0) c1360
                          have z1363 := congrArg Int32.toInt c1360
                          rw [show (0 : Int32).toInt = 0 from by decide] at z1363
                          refine ev_aload_n rfl rfl rfl ?_
                          refine ev_getV (v := f1170) rfl rfl fl_X10_234 rfl rfl rfl (rd_w k1350 ef1170 rfl) ?_
                          refine ev_bipush (v := 24) rfl rfl (by decide) ?_
                          refine ev_icmp_le rfl rfl (fun c1366 => ?_) (fun c1366 => ?_)
                          · have b1367 : B f1170 0 24 := R_leX bf1170 (by decide : B 24 24 24) c1366 (by decide)
                            have z1368 := w_le c1366
                            rw [show (24 : Int32).toInt = 24 from by decide] at z1368
                            exact ev_vret rfl rfl trivial ⟨rfl, rfl, hJ1350, (by have z0_ := congrArg Int32.toInt ef1351; have z1_ := congrArg Int32.toInt (rd_w k1350 ef1170 rfl); have z_ := w_lits; have zl_ := l_lits; omega)⟩
                          · have b1369 : B f1170 25 60 := R_ltY (by decide : B 24 24 24) bf1170 (Int32.not_le.mp c1366) (by decide)
                            have z1370 := w_lt (Int32.not_le.mp c1366)
                            rw [show (24 : Int32).toInt = 24 from by decide] at z1370
                            refine ev_aload_n rfl rfl rfl ?_
                            refine ev_bipush (v := 6) rfl rfl (by decide) ?_
                            refine ev_iconst (v := 0) rfl rfl (by decide) ?_
                            refine ev_V2K hJ1350 rfl rfl rfl lk_X10_200 vt_X10_fails rfl rfl rfl rfl rfl (w_X10_fails_63 L b h1350 hJ1350.1 6 ((by decide : B 6 6 6).mono (by decide) (by decide)) 0) (fun h1371 hJ1371 k1371 m1371 => ?_)
                            obtain ⟨f1372, ef1372⟩ : ∃ f_, h1371 63 21 = f_ := ⟨_, rfl⟩
                            have bf1372 : B f1372 0 6 := by have z_ := hJ1371.1 63 21; rw [ef1372] at z_; exact z_
                            have zf1372 := congrArg Int32.toInt ef1372
                            exact ev_vret rfl rfl trivial ⟨rfl, rfl, hJ1371, (by have z0_ := congrArg Int32.toInt ef1372; have z1_ := congrArg Int32.toInt (rd_w k1371 (rd_w k1350 ef1170 rfl) rfl); have z_ := w_lits; have zl_ := l_lits; omega)⟩
                    · have b1348 : B w1159 0 0 := R_eqX b1161 (by decide : B 0 0 0) c1345
                      have z1349 := congrArg Int32.toInt c1345
                      rw [show (0 : Int32).toInt = 0 from by decide] at z1349
                      refine ev_iconst (v := 1) rfl rfl (by decide) ?_
                      refine ev_goto rfl rfl ?_
                      refine ev_iconst (v := 2) rfl rfl (by decide) ?_
                      refine ev_V2K hJ1164 rfl rfl rfl lk_X10_230 vt_X10_wants rfl rfl rfl rfl rfl (w_X10_wants_63 L b h1163 hJ1164.1 1 ((by decide : B 1 1 1).mono (by decide) (by decide)) 2 ((by decide : B 2 2 2).mono (by decide) (by decide))) (fun h1373 hJ1373 k1373 m1373 => ?_)
                      obtain ⟨f1374, ef1374⟩ : ∃ f_, h1373 63 21 = f_ := ⟨_, rfl⟩
                      have bf1374 : B f1374 0 6 := by have z_ := hJ1373.1 63 21; rw [ef1374] at z_; exact z_
                      have zf1374 := congrArg Int32.toInt ef1374
                      refine ev_iconst (v := 0) rfl rfl (by decide) ?_
                      refine ev_istore_n rfl rfl rfl rfl ?_
                      dsimp only [List.set]
                      refine ev_goto rfl rfl ?_
                      refine ev_iload_n rfl rfl rfl ?_
                      refine ev_if_eq rfl rfl (fun c1375 => ?_) (fun c1375 => absurd (D_eq (by decide : B 0 0 0) (by decide : B 0 0 0)) c1375)
                      have z1376 := congrArg Int32.toInt c1375
                      rw [show (0 : Int32).toInt = 0 from by decide] at z1376
                      refine ev_aload_n rfl rfl rfl ?_
                      refine ev_getV (v := f1374) rfl rfl fl_X10_191 rfl rfl rfl ef1374 ?_
                      refine ev_if_ne rfl rfl (fun c1377 => ?_) (fun c1377 => ?_)
                      · have b1378 : B f1374 1 6 := R_neL bf1374 (by decide : B 0 0 0) c1377 (by decide)
                        have z1379 := w_ne c1377
                        rw [show (0 : Int32).toInt = 0 from by decide] at z1379
                        exact ev_vret rfl rfl trivial ⟨rfl, rfl, hJ1373, (by have z0_ := congrArg Int32.toInt ef1374; have z1_ := congrArg Int32.toInt (rd_w k1373 ef1170 rfl); have z_ := w_lits; have zl_ := l_lits; omega)⟩
                      · have b1380 : B f1374 0 0 := R_eqX bf1374 (by decide : B 0 0 0) c1377
                        have z1381 := congrArg Int32.toInt c1377
                        rw [show (0 : Int32).toInt = 0 from by decide] at z1381
                        refine ev_aload_n rfl rfl rfl ?_
                        refine ev_getW (l := (-2147483648)) (u := 2147483647) hJ1373.1 rfl rfl rfl fl_X10_237 rfl rfl rfl (fun v1382 b1382 e1382 => ?_)
                        refine ev_if_ne rfl rfl (fun c1383 => ?_) (fun c1383 => ?_)
                        · have z1384 := w_ne c1383
                          rw [show (0 : Int32).toInt = 0 from by decide] at z1384
                          refine ev_aload_n rfl rfl rfl ?_
                          refine ev_bipush (v := 6) rfl rfl (by decide) ?_
                          refine ev_iconst (v := 0) rfl rfl (by decide) ?_
                          refine ev_V2K hJ1373 rfl rfl rfl lk_X10_200 vt_X10_fails rfl rfl rfl rfl rfl (w_X10_fails_63 L b h1373 hJ1373.1 6 ((by decide : B 6 6 6).mono (by decide) (by decide)) 0) (fun h1387 hJ1387 k1387 m1387 => ?_)
                          obtain ⟨f1388, ef1388⟩ : ∃ f_, h1387 63 21 = f_ := ⟨_, rfl⟩
                          have bf1388 : B f1388 0 6 := by have z_ := hJ1387.1 63 21; rw [ef1388] at z_; exact z_
                          have zf1388 := congrArg Int32.toInt ef1388
                          exact ev_vret rfl rfl trivial ⟨rfl, rfl, hJ1387, (by have z0_ := congrArg Int32.toInt ef1388; have z1_ := congrArg Int32.toInt (rd_w k1387 (rd_w k1373 ef1170 rfl) rfl); have z_ := w_lits; have zl_ := l_lits; omega)⟩
                        · have b1385 : B v1382 0 0 := R_eqX (B.any v1382) (by decide : B 0 0 0) c1383
                          have z1386 := congrArg Int32.toInt c1383
                          rw [show (0 : Int32).toInt = 0 from by decide] at z1386
                          refine ev_aload_n rfl rfl rfl ?_
                          refine ev_getV (v := f1170) rfl rfl fl_X10_234 rfl rfl rfl (rd_w k1373 ef1170 rfl) ?_
                          refine ev_bipush (v := 24) rfl rfl (by decide) ?_
                          refine ev_icmp_le rfl rfl (fun c1389 => ?_) (fun c1389 => ?_)
                          · have b1390 : B f1170 0 24 := R_leX bf1170 (by decide : B 24 24 24) c1389 (by decide)
                            have z1391 := w_le c1389
                            rw [show (24 : Int32).toInt = 24 from by decide] at z1391
                            exact ev_vret rfl rfl trivial ⟨rfl, rfl, hJ1373, (by have z0_ := congrArg Int32.toInt ef1374; have z1_ := congrArg Int32.toInt (rd_w k1373 ef1170 rfl); have z_ := w_lits; have zl_ := l_lits; omega)⟩
                          · have b1392 : B f1170 25 60 := R_ltY (by decide : B 24 24 24) bf1170 (Int32.not_le.mp c1389) (by decide)
                            have z1393 := w_lt (Int32.not_le.mp c1389)
                            rw [show (24 : Int32).toInt = 24 from by decide] at z1393
                            refine ev_aload_n rfl rfl rfl ?_
                            refine ev_bipush (v := 6) rfl rfl (by decide) ?_
                            refine ev_iconst (v := 0) rfl rfl (by decide) ?_
                            refine ev_V2K hJ1373 rfl rfl rfl lk_X10_200 vt_X10_fails rfl rfl rfl rfl rfl (w_X10_fails_63 L b h1373 hJ1373.1 6 ((by decide : B 6 6 6).mono (by decide) (by decide)) 0) (fun h1394 hJ1394 k1394 m1394 => ?_)
                            obtain ⟨f1395, ef1395⟩ : ∃ f_, h1394 63 21 = f_ := ⟨_, rfl⟩
                            have bf1395 : B f1395 0 6 := by have z_ := hJ1394.1 63 21; rw [ef1395] at z_; exact z_
                            have zf1395 := congrArg Int32.toInt ef1395
                            exact ev_vret rfl rfl trivial ⟨rfl, rfl, hJ1394, (by have z0_ := congrArg Int32.toInt ef1395; have z1_ := congrArg Int32.toInt (rd_w k1394 (rd_w k1373 ef1170 rfl) rfl); have z_ := w_lits; have zl_ := l_lits; omega)⟩
                · have b1313 : B f1171 1 4 := R_ltY (by decide : B 0 0 0) bf1171 (Int32.not_le.mp c1310) (by decide)
                  have z1314 := w_lt (Int32.not_le.mp c1310)
                  rw [show (0 : Int32).toInt = 0 from by decide] at z1314
                  refine ev_iload_n rfl rfl rfl ?_
                  refine ev_if_ne rfl rfl (fun c1396 => ?_) (fun c1396 => ?_)
                  · have b1397 : B w1159 1 1 := R_neL b1161 (by decide : B 0 0 0) c1396 (by decide)
                    have z1398 := w_ne c1396
                    rw [show (0 : Int32).toInt = 0 from by decide] at z1398
                    refine ev_aload_n rfl rfl rfl ?_
                    refine ev_aload_n rfl rfl rfl ?_
                    refine ev_getV (v := f1169) rfl rfl fl_X10_204 rfl rfl rfl ef1169 ?_
                    refine ev_if_ne rfl rfl (fun c1401 => ?_) (fun c1401 => ?_)
                    · have b1402 : B f1169 1 3 := R_neL bf1169 (by decide : B 0 0 0) c1401 (by decide)
                      have z1403 := w_ne c1401
                      rw [show (0 : Int32).toInt = 0 from by decide] at z1403
                      refine ev_iconst (v := 0) rfl rfl (by decide) ?_
                      refine ev_iconst (v := 2) rfl rfl (by decide) ?_
                      refine ev_V2K hJ1164 rfl rfl rfl lk_X10_230 vt_X10_wants rfl rfl rfl rfl rfl (w_X10_wants_63 L b h1163 hJ1164.1 0 ((by decide : B 0 0 0).mono (by decide) (by decide)) 2 ((by decide : B 2 2 2).mono (by decide) (by decide))) (fun h1406 hJ1406 k1406 m1406 => ?_)
                      obtain ⟨f1407, ef1407⟩ : ∃ f_, h1406 63 21 = f_ := ⟨_, rfl⟩
                      have bf1407 : B f1407 0 6 := by have z_ := hJ1406.1 63 21; rw [ef1407] at z_; exact z_
                      have zf1407 := congrArg Int32.toInt ef1407
                      refine ev_iconst (v := 0) rfl rfl (by decide) ?_
                      refine ev_istore_n rfl rfl rfl rfl ?_
                      dsimp only [List.set]
                      refine ev_goto rfl rfl ?_
                      refine ev_iload_n rfl rfl rfl ?_
                      refine ev_if_eq rfl rfl (fun c1408 => ?_) (fun c1408 => absurd (D_eq (by decide : B 0 0 0) (by decide : B 0 0 0)) c1408)
                      have z1409 := congrArg Int32.toInt c1408
                      rw [show (0 : Int32).toInt = 0 from by decide] at z1409
                      refine ev_aload_n rfl rfl rfl ?_
                      refine ev_getV (v := f1407) rfl rfl fl_X10_191 rfl rfl rfl ef1407 ?_
                      refine ev_if_ne rfl rfl (fun c1410 => ?_) (fun c1410 => ?_)
                      · have b1411 : B f1407 1 6 := R_neL bf1407 (by decide : B 0 0 0) c1410 (by decide)
                        have z1412 := w_ne c1410
                        rw [show (0 : Int32).toInt = 0 from by decide] at z1412
                        exact ev_vret rfl rfl trivial ⟨rfl, rfl, hJ1406, (by have z0_ := congrArg Int32.toInt ef1407; have z1_ := congrArg Int32.toInt (rd_w k1406 ef1170 rfl); have z_ := w_lits; have zl_ := l_lits; omega)⟩
                      · have b1413 : B f1407 0 0 := R_eqX bf1407 (by decide : B 0 0 0) c1410
                        have z1414 := congrArg Int32.toInt c1410
                        rw [show (0 : Int32).toInt = 0 from by decide] at z1414
                        refine ev_aload_n rfl rfl rfl ?_
                        refine ev_getW (l := (-2147483648)) (u := 2147483647) hJ1406.1 rfl rfl rfl fl_X10_237 rfl rfl rfl (fun v1415 b1415 e1415 => ?_)
                        refine ev_if_ne rfl rfl (fun c1416 => ?_) (fun c1416 => ?_)
                        · have z1417 := w_ne c1416
                          rw [show (0 : Int32).toInt = 0 from by decide] at z1417
                          refine ev_aload_n rfl rfl rfl ?_
                          refine ev_bipush (v := 6) rfl rfl (by decide) ?_
                          refine ev_iconst (v := 0) rfl rfl (by decide) ?_
                          refine ev_V2K hJ1406 rfl rfl rfl lk_X10_200 vt_X10_fails rfl rfl rfl rfl rfl (w_X10_fails_63 L b h1406 hJ1406.1 6 ((by decide : B 6 6 6).mono (by decide) (by decide)) 0) (fun h1420 hJ1420 k1420 m1420 => ?_)
                          obtain ⟨f1421, ef1421⟩ : ∃ f_, h1420 63 21 = f_ := ⟨_, rfl⟩
                          have bf1421 : B f1421 0 6 := by have z_ := hJ1420.1 63 21; rw [ef1421] at z_; exact z_
                          have zf1421 := congrArg Int32.toInt ef1421
                          exact ev_vret rfl rfl trivial ⟨rfl, rfl, hJ1420, (by have z0_ := congrArg Int32.toInt ef1421; have z1_ := congrArg Int32.toInt (rd_w k1420 (rd_w k1406 ef1170 rfl) rfl); have z_ := w_lits; have zl_ := l_lits; omega)⟩
                        · have b1418 : B v1415 0 0 := R_eqX (B.any v1415) (by decide : B 0 0 0) c1416
                          have z1419 := congrArg Int32.toInt c1416
                          rw [show (0 : Int32).toInt = 0 from by decide] at z1419
                          refine ev_aload_n rfl rfl rfl ?_
                          refine ev_getV (v := f1170) rfl rfl fl_X10_234 rfl rfl rfl (rd_w k1406 ef1170 rfl) ?_
                          refine ev_bipush (v := 24) rfl rfl (by decide) ?_
                          refine ev_icmp_le rfl rfl (fun c1422 => ?_) (fun c1422 => ?_)
                          · have b1423 : B f1170 0 24 := R_leX bf1170 (by decide : B 24 24 24) c1422 (by decide)
                            have z1424 := w_le c1422
                            rw [show (24 : Int32).toInt = 24 from by decide] at z1424
                            exact ev_vret rfl rfl trivial ⟨rfl, rfl, hJ1406, (by have z0_ := congrArg Int32.toInt ef1407; have z1_ := congrArg Int32.toInt (rd_w k1406 ef1170 rfl); have z_ := w_lits; have zl_ := l_lits; omega)⟩
                          · have b1425 : B f1170 25 60 := R_ltY (by decide : B 24 24 24) bf1170 (Int32.not_le.mp c1422) (by decide)
                            have z1426 := w_lt (Int32.not_le.mp c1422)
                            rw [show (24 : Int32).toInt = 24 from by decide] at z1426
                            refine ev_aload_n rfl rfl rfl ?_
                            refine ev_bipush (v := 6) rfl rfl (by decide) ?_
                            refine ev_iconst (v := 0) rfl rfl (by decide) ?_
                            refine ev_V2K hJ1406 rfl rfl rfl lk_X10_200 vt_X10_fails rfl rfl rfl rfl rfl (w_X10_fails_63 L b h1406 hJ1406.1 6 ((by decide : B 6 6 6).mono (by decide) (by decide)) 0) (fun h1427 hJ1427 k1427 m1427 => ?_)
                            obtain ⟨f1428, ef1428⟩ : ∃ f_, h1427 63 21 = f_ := ⟨_, rfl⟩
                            have bf1428 : B f1428 0 6 := by have z_ := hJ1427.1 63 21; rw [ef1428] at z_; exact z_
                            have zf1428 := congrArg Int32.toInt ef1428
                            exact ev_vret rfl rfl trivial ⟨rfl, rfl, hJ1427, (by have z0_ := congrArg Int32.toInt ef1428; have z1_ := congrArg Int32.toInt (rd_w k1427 (rd_w k1406 ef1170 rfl) rfl); have z_ := w_lits; have zl_ := l_lits; omega)⟩
                    · have b1404 : B f1169 0 0 := R_eqX bf1169 (by decide : B 0 0 0) c1401
                      have z1405 := congrArg Int32.toInt c1401
                      rw [show (0 : Int32).toInt = 0 from by decide] at z1405
                      refine ev_aload_n rfl rfl rfl ?_
                      refine ev_getV (v := f1171) rfl rfl fl_X10_241 rfl rfl rfl ef1171 ?_
                      refine ev_if_ne rfl rfl (fun c1429 => ?_) (fun c1429 => absurd c1429 (D_ne b1313 (by decide : B 0 0 0) (by decide)))
                      have z1430 := w_ne c1429
                      rw [show (0 : Int32).toInt = 0 from by decide] at z1430
                      refine ev_iconst (v := 0) rfl rfl (by decide) ?_
                      refine ev_iconst (v := 2) rfl rfl (by decide) ?_
                      refine ev_V2K hJ1164 rfl rfl rfl lk_X10_230 vt_X10_wants rfl rfl rfl rfl rfl (w_X10_wants_63 L b h1163 hJ1164.1 0 ((by decide : B 0 0 0).mono (by decide) (by decide)) 2 ((by decide : B 2 2 2).mono (by decide) (by decide))) (fun h1431 hJ1431 k1431 m1431 => ?_)
                      obtain ⟨f1432, ef1432⟩ : ∃ f_, h1431 63 21 = f_ := ⟨_, rfl⟩
                      have bf1432 : B f1432 0 6 := by have z_ := hJ1431.1 63 21; rw [ef1432] at z_; exact z_
                      have zf1432 := congrArg Int32.toInt ef1432
                      refine ev_iconst (v := 0) rfl rfl (by decide) ?_
                      refine ev_istore_n rfl rfl rfl rfl ?_
                      dsimp only [List.set]
                      refine ev_goto rfl rfl ?_
                      refine ev_iload_n rfl rfl rfl ?_
                      refine ev_if_eq rfl rfl (fun c1433 => ?_) (fun c1433 => absurd (D_eq (by decide : B 0 0 0) (by decide : B 0 0 0)) c1433)
                      have z1434 := congrArg Int32.toInt c1433
                      rw [show (0 : Int32).toInt = 0 from by decide] at z1434
                      refine ev_aload_n rfl rfl rfl ?_
                      refine ev_getV (v := f1432) rfl rfl fl_X10_191 rfl rfl rfl ef1432 ?_
                      refine ev_if_ne rfl rfl (fun c1435 => ?_) (fun c1435 => ?_)
                      · have b1436 : B f1432 1 6 := R_neL bf1432 (by decide : B 0 0 0) c1435 (by decide)
                        have z1437 := w_ne c1435
                        rw [show (0 : Int32).toInt = 0 from by decide] at z1437
                        exact ev_vret rfl rfl trivial ⟨rfl, rfl, hJ1431, (by have z0_ := congrArg Int32.toInt ef1432; have z1_ := congrArg Int32.toInt (rd_w k1431 ef1170 rfl); have z_ := w_lits; have zl_ := l_lits; omega)⟩
                      · have b1438 : B f1432 0 0 := R_eqX bf1432 (by decide : B 0 0 0) c1435
                        have z1439 := congrArg Int32.toInt c1435
                        rw [show (0 : Int32).toInt = 0 from by decide] at z1439
                        refine ev_aload_n rfl rfl rfl ?_
                        refine ev_getW (l := (-2147483648)) (u := 2147483647) hJ1431.1 rfl rfl rfl fl_X10_237 rfl rfl rfl (fun v1440 b1440 e1440 => ?_)
                        refine ev_if_ne rfl rfl (fun c1441 => ?_) (fun c1441 => ?_)
                        · have z1442 := w_ne c1441
                          rw [show (0 : Int32).toInt = 0 from by decide] at z1442
                          refine ev_aload_n rfl rfl rfl ?_
                          refine ev_bipush (v := 6) rfl rfl (by decide) ?_
                          refine ev_iconst (v := 0) rfl rfl (by decide) ?_
                          refine ev_V2K hJ1431 rfl rfl rfl lk_X10_200 vt_X10_fails rfl rfl rfl rfl rfl (w_X10_fails_63 L b h1431 hJ1431.1 6 ((by decide : B 6 6 6).mono (by decide) (by decide)) 0) (fun h1445 hJ1445 k1445 m1445 => ?_)
                          obtain ⟨f1446, ef1446⟩ : ∃ f_, h1445 63 21 = f_ := ⟨_, rfl⟩
                          have bf1446 : B f1446 0 6 := by have z_ := hJ1445.1 63 21; rw [ef1446] at z_; exact z_
                          have zf1446 := congrArg Int32.toInt ef1446
                          exact ev_vret rfl rfl trivial ⟨rfl, rfl, hJ1445, (by have z0_ := congrArg Int32.toInt ef1446; have z1_ := congrArg Int32.toInt (rd_w k1445 (rd_w k1431 ef1170 rfl) rfl); have z_ := w_lits; have zl_ := l_lits; omega)⟩
                        · have b1443 : B v1440 0 0 := R_eqX (B.any v1440) (by decide : B 0 0 0) c1441
                          have z1444 := congrArg Int32.toInt c1441
                          rw [show (0 : Int32).toInt = 0 from by decide] at z1444
                          refine ev_aload_n rfl rfl rfl ?_
                          refine ev_getV (v := f1170) rfl rfl fl_X10_234 rfl rfl rfl (rd_w k1431 ef1170 rfl) ?_
                          refine ev_bipush (v := 24) rfl rfl (by decide) ?_
                          refine ev_icmp_le rfl rfl (fun c1447 => ?_) (fun c1447 => ?_)
                          · have b1448 : B f1170 0 24 := R_leX bf1170 (by decide : B 24 24 24) c1447 (by decide)
                            have z1449 := w_le c1447
                            rw [show (24 : Int32).toInt = 24 from by decide] at z1449
                            exact ev_vret rfl rfl trivial ⟨rfl, rfl, hJ1431, (by have z0_ := congrArg Int32.toInt ef1432; have z1_ := congrArg Int32.toInt (rd_w k1431 ef1170 rfl); have z_ := w_lits; have zl_ := l_lits; omega)⟩
                          · have b1450 : B f1170 25 60 := R_ltY (by decide : B 24 24 24) bf1170 (Int32.not_le.mp c1447) (by decide)
                            have z1451 := w_lt (Int32.not_le.mp c1447)
                            rw [show (24 : Int32).toInt = 24 from by decide] at z1451
                            refine ev_aload_n rfl rfl rfl ?_
                            refine ev_bipush (v := 6) rfl rfl (by decide) ?_
                            refine ev_iconst (v := 0) rfl rfl (by decide) ?_
                            refine ev_V2K hJ1431 rfl rfl rfl lk_X10_200 vt_X10_fails rfl rfl rfl rfl rfl (w_X10_fails_63 L b h1431 hJ1431.1 6 ((by decide : B 6 6 6).mono (by decide) (by decide)) 0) (fun h1452 hJ1452 k1452 m1452 => ?_)
                            obtain ⟨f1453, ef1453⟩ : ∃ f_, h1452 63 21 = f_ := ⟨_, rfl⟩
                            have bf1453 : B f1453 0 6 := by have z_ := hJ1452.1 63 21; rw [ef1453] at z_; exact z_
                            have zf1453 := congrArg Int32.toInt ef1453
                            exact ev_vret rfl rfl trivial ⟨rfl, rfl, hJ1452, (by have z0_ := congrArg Int32.toInt ef1453; have z1_ := congrArg Int32.toInt (rd_w k1452 (rd_w k1431 ef1170 rfl) rfl); have z_ := w_lits; have zl_ := l_lits; omega)⟩
                  · have b1399 : B w1159 0 0 := R_eqX b1161 (by decide : B 0 0 0) c1396
                    have z1400 := congrArg Int32.toInt c1396
                    rw [show (0 : Int32).toInt = 0 from by decide] at z1400
                    have rm1454 := rm19
                    exact (w_rt208 L b h h1163 hJ1164 _ w1159 (b1399.mono (by decide) (by decide)) w1160 b1162 rm1454.1 rm1454.2.1 rm1454.2.2.1 rm1454.2.2.2 (by have z0_ := congrArg Int32.toInt z1165; have z1_ := congrArg Int32.toInt ef1166; have z_ := w_lits; have zl_ := l_lits; omega) (by have z0_ := congrArg Int32.toInt ef1167; have z1_ := congrArg Int32.toInt ef1168; have z2_ := congrArg Int32.toInt ef1169; have z_ := w_lits; have zl_ := l_lits; omega) (by have z0_ := congrArg Int32.toInt ef1167; have z_ := w_lits; have zl_ := l_lits; omega) (by have z0_ := congrArg Int32.toInt ef1169; have z_ := w_lits; have zl_ := l_lits; omega) (B.at ef1171 b1313) (fun m1_ h_ b1_ j_ r0_ r1_ r2_ r3_ r4_ r5_ rd_ => ih19 m1_ w1160 h_ b1_ b1162 j_ ((j_.2 63 16 rfl).trans ef1) ⟨r0_, r1_, r2_, r3_⟩ r4_ r5_ (mM_dec hm19 (by have z0_ := congrArg Int32.toInt z1165; have z1_ := congrArg Int32.toInt ef1166; have z2_ := congrArg Int32.toInt ef1167; have z3_ := congrArg Int32.toInt ef1168; have z4_ := congrArg Int32.toInt ef1169; have z5_ := congrArg Int32.toInt ef1170; have z6_ := congrArg Int32.toInt ef1171; have z_ := w_lits; have zl_ := l_lits; omega) (by have z0_ := congrArg Int32.toInt z1165; have z1_ := congrArg Int32.toInt ef1166; have z2_ := congrArg Int32.toInt ef1167; have z3_ := congrArg Int32.toInt ef1168; have z4_ := congrArg Int32.toInt ef1169; have z5_ := congrArg Int32.toInt ef1170; have z6_ := congrArg Int32.toInt ef1171; have z_ := w_lits; have zl_ := l_lits; omega) (by have z0_ := congrArg Int32.toInt z1165; have z1_ := congrArg Int32.toInt ef1166; have z2_ := congrArg Int32.toInt ef1167; have z3_ := congrArg Int32.toInt ef1168; have z4_ := congrArg Int32.toInt ef1169; have z5_ := congrArg Int32.toInt ef1170; have z6_ := congrArg Int32.toInt ef1171; have z7_ := rd_; have z_ := w_lits; have zl_ := l_lits; omega))))
            · have b1195 : B f1169 2 2 := R_eqX bf1169 (by decide : B 2 2 2) c1193
              have z1196 := congrArg Int32.toInt c1193
              rw [show (2 : Int32).toInt = 2 from by decide] at z1196
              have rm1455 := rm19
              exact (w_rt84 L b h h1163 hJ1164 _ w1159 b1161 w1160 b1162 (by have z0_ := congrArg Int32.toInt z1165; have z1_ := congrArg Int32.toInt ef1166; have z_ := w_lits; have zl_ := l_lits; omega) (by have z0_ := congrArg Int32.toInt ef1167; have z_ := w_lits; have zl_ := l_lits; omega) (by have z0_ := congrArg Int32.toInt ef1169; have z_ := w_lits; have zl_ := l_lits; omega) rm1455 (fun m1_ h_ b1_ j_ r0_ r1_ r2_ r3_ r4_ r5_ rd_ => ih19 m1_ w1160 h_ b1_ b1162 j_ ((j_.2 63 16 rfl).trans ef1) ⟨r0_, r1_, r2_, r3_⟩ r4_ r5_ (mM_dec hm19 (by have z0_ := congrArg Int32.toInt z1165; have z1_ := congrArg Int32.toInt ef1166; have z2_ := congrArg Int32.toInt ef1167; have z3_ := congrArg Int32.toInt ef1168; have z4_ := congrArg Int32.toInt ef1169; have z5_ := congrArg Int32.toInt ef1170; have z6_ := congrArg Int32.toInt ef1171; have z_ := w_lits; have zl_ := l_lits; omega) (by have z0_ := congrArg Int32.toInt z1165; have z1_ := congrArg Int32.toInt ef1166; have z2_ := congrArg Int32.toInt ef1167; have z3_ := congrArg Int32.toInt ef1168; have z4_ := congrArg Int32.toInt ef1169; have z5_ := congrArg Int32.toInt ef1170; have z6_ := congrArg Int32.toInt ef1171; have z_ := w_lits; have zl_ := l_lits; omega) (by have z0_ := congrArg Int32.toInt z1165; have z1_ := congrArg Int32.toInt ef1166; have z2_ := congrArg Int32.toInt ef1167; have z3_ := congrArg Int32.toInt ef1168; have z4_ := congrArg Int32.toInt ef1169; have z5_ := congrArg Int32.toInt ef1170; have z6_ := congrArg Int32.toInt ef1171; have z7_ := rd_; have z_ := w_lits; have zl_ := l_lits; omega))))
          · have b1191 : B r1187 1 1 := R_neL b1187 (by decide : B 0 0 0) c1188 (by decide)
            have z1192 := w_ne c1188
            rw [show (0 : Int32).toInt = 0 from by decide] at z1192
            have rm1456 := rm19
            exact (w_rt47 L b h h1163 hJ1164 _ w1159 b1161 w1160 b1162 rm1456.1 rm1456.2.1 rm1456.2.2.1 rm1456.2.2.2 (by have z0_ := congrArg Int32.toInt z1165; have z1_ := congrArg Int32.toInt ef1166; have z_ := w_lits; have zl_ := l_lits; omega) (by have z0_ := congrArg Int32.toInt ef1167; have z1_ := congrArg Int32.toInt ef1168; have z2_ := congrArg Int32.toInt ef1169; have z_ := w_lits; have zl_ := l_lits; omega) (by have z0_ := congrArg Int32.toInt ef1167; have z_ := w_lits; have zl_ := l_lits; omega) (by have z0_ := congrArg Int32.toInt ef1169; have z_ := w_lits; have zl_ := l_lits; omega) (fun m1_ h_ b1_ j_ r0_ r1_ r2_ r3_ r4_ r5_ rd_ => ih19 m1_ w1160 h_ b1_ b1162 j_ ((j_.2 63 16 rfl).trans ef1) ⟨r0_, r1_, r2_, r3_⟩ r4_ r5_ (mM_dec hm19 (by have z0_ := congrArg Int32.toInt z1165; have z1_ := congrArg Int32.toInt ef1166; have z2_ := congrArg Int32.toInt ef1167; have z3_ := congrArg Int32.toInt ef1168; have z4_ := congrArg Int32.toInt ef1169; have z5_ := congrArg Int32.toInt ef1170; have z6_ := congrArg Int32.toInt ef1171; have z_ := w_lits; have zl_ := l_lits; omega) (by have z0_ := congrArg Int32.toInt z1165; have z1_ := congrArg Int32.toInt ef1166; have z2_ := congrArg Int32.toInt ef1167; have z3_ := congrArg Int32.toInt ef1168; have z4_ := congrArg Int32.toInt ef1169; have z5_ := congrArg Int32.toInt ef1170; have z6_ := congrArg Int32.toInt ef1171; have z_ := w_lits; have zl_ := l_lits; omega) (by have z0_ := congrArg Int32.toInt z1165; have z1_ := congrArg Int32.toInt ef1166; have z2_ := congrArg Int32.toInt ef1167; have z3_ := congrArg Int32.toInt ef1168; have z4_ := congrArg Int32.toInt ef1169; have z5_ := congrArg Int32.toInt ef1170; have z6_ := congrArg Int32.toInt ef1171; have z7_ := rd_; have z_ := w_lits; have zl_ := l_lits; omega))))
  exact (lp19_1158 330 1 1 h10 ((by decide : B 1 1 1).mono (by decide) (by decide)) (by decide : B 1 1 1) hJ10 (rd_o k10 (rd_o k9 (rd_o k8 ef1 rfl) rfl) rfl) (RM.zero (rd_o k10 (rd_o k9 (rd_s k8) rfl) rfl)) (by have z0_ := congrArg Int32.toInt (rd_o k10 (rd_o k9 (rd_o k8 ef1 rfl) rfl) rfl); have z1_ := congrArg Int32.toInt (rd_o k10 (rd_o k9 (rd_o k8 ef2 rfl) rfl) rfl); have z_ := w_lits; have zl_ := l_lits; omega) (by have z0_ := congrArg Int32.toInt (rd_o k10 (rd_o k9 (rd_o k8 ef3 rfl) rfl) rfl); have z1_ := congrArg Int32.toInt (rd_o k10 (rd_o k9 (rd_o k8 ef4 rfl) rfl) rfl); have z2_ := congrArg Int32.toInt (rd_o k10 (rd_o k9 (rd_o k8 ef5 rfl) rfl) rfl); have z_ := w_lits; have zl_ := l_lits; omega) (mM_top _ _ _ (hJ10.1 63 17)))

