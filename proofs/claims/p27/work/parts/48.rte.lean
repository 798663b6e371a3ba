set_option maxRecDepth 100000 in
set_option maxHeartbeats 4000000 in
theorem w_X10_readTune_63 (L : Nat) (b : Bool) (h : Hp) (hB : Bx h) (rp0 : (h 63 17).toInt ≤ (h 63 16).toInt) (rp1 : (h 63 21).toInt = 0 → (h 63 19).toInt = 1 → 0 ≤ (h 63 20).toInt ∧ (h 63 20).toInt ≤ 4095) : EvK mi_X10_readTune [.ref 63] (G0 L b) h (fun z : Hp => ((z 63 21).toInt = 0 → (z 63 27).toInt ≤ 24)) [(63, 17), (63, 18), (63, 19), (63, 20), (63, 21), (63, 22), (63, 27), (63, 28), (63, 31), (75, 999), (76, 999), (77, 999)] := by
  refine EvM.of2 (lo := [some (.ref 63), none, none, none]) pf_X10_readTune ok_X10_readTune rfl rfl ?_
  have hJ0 : JW [(63, 17), (63, 18), (63, 19), (63, 20), (63, 21), (63, 22), (63, 27), (63, 28), (63, 31), (75, 999), (76, 999), (77, 999)] h h := JW.refl hB
  obtain ⟨f1, ef1⟩ : ∃ f_, h 63 16 = f_ := ⟨_, rfl⟩
  have bf1 : B f1 0 160 := by have z_ := hJ0.1 63 16; rw [ef1] at z_; exact z_
  have zf1 := congrArg Int32.toInt ef1
  obtain ⟨f2, ef2⟩ : ∃ f_, h 63 17 = f_ := ⟨_, rfl⟩
  have bf2 : B f2 0 160 := by have z_ := hJ0.1 63 17; rw [ef2] at z_; exact z_
  have zf2 := congrArg Int32.toInt ef2
  obtain ⟨f3, ef3⟩ : ∃ f_, h 63 21 = f_ := ⟨_, rfl⟩
  have bf3 : B f3 0 6 := by have z_ := hJ0.1 63 21; rw [ef3] at z_; exact z_
  have zf3 := congrArg Int32.toInt ef3
  obtain ⟨f4, ef4⟩ : ∃ f_, h 63 20 = f_ := ⟨_, rfl⟩
  have zf4 := congrArg Int32.toInt ef4
  obtain ⟨f5, ef5⟩ : ∃ f_, h 63 19 = f_ := ⟨_, rfl⟩
  have bf5 : B f5 0 3 := by have z_ := hJ0.1 63 19; rw [ef5] at z_; exact z_
  have zf5 := congrArg Int32.toInt ef5
  obtain ⟨f6, ef6⟩ : ∃ f_, h 63 27 = f_ := ⟨_, rfl⟩
  have bf6 : B f6 0 60 := by have z_ := hJ0.1 63 27; rw [ef6] at z_; exact z_
  have zf6 := congrArg Int32.toInt ef6
  obtain ⟨f7, ef7⟩ : ∃ f_, h 63 31 = f_ := ⟨_, rfl⟩
  have bf7 : B f7 0 4 := by have z_ := hJ0.1 63 31; rw [ef7] at z_; exact z_
  have zf7 := congrArg Int32.toInt ef7
  obtain ⟨f8, ef8⟩ : ∃ f_, h 76 0 = f_ := ⟨_, rfl⟩
  have bf8 : B f8 0 60 := by have z_ := hJ0.1 76 0; rw [ef8] at z_; exact z_
  have zf8 := congrArg Int32.toInt ef8
  obtain ⟨f9, ef9⟩ : ∃ f_, h 76 1 = f_ := ⟨_, rfl⟩
  have bf9 : B f9 0 60 := by have z_ := hJ0.1 76 1; rw [ef9] at z_; exact z_
  have zf9 := congrArg Int32.toInt ef9
  obtain ⟨f10, ef10⟩ : ∃ f_, h 76 2 = f_ := ⟨_, rfl⟩
  have bf10 : B f10 0 60 := by have z_ := hJ0.1 76 2; rw [ef10] at z_; exact z_
  have zf10 := congrArg Int32.toInt ef10
  obtain ⟨f11, ef11⟩ : ∃ f_, h 76 3 = f_ := ⟨_, rfl⟩
  have bf11 : B f11 0 60 := by have z_ := hJ0.1 76 3; rw [ef11] at z_; exact z_
  have zf11 := congrArg Int32.toInt ef11
  refine ev_iconst (v := 1) rfl rfl (by decide) ?_
  refine ev_istore_n rfl rfl rfl rfl ?_
  dsimp only [List.set]
  refine ev_aload_n rfl rfl rfl ?_
  refine ev_iconst (v := 0) rfl rfl (by decide) ?_
  refine ev_putW (l := 0) (u := 4) hJ0 rfl (by decide : B 0 0 0) (by decide) (by decide) rfl rfl rfl fl_X10_241 rfl rfl rfl rfl rfl (fun h12 hJ12 k12 => ?_)
  refine ev_aload_n rfl rfl rfl ?_
  refine ev_iconst (v := 0) rfl rfl (by decide) ?_
  refine ev_putW (l := 0) (u := 60) hJ12 rfl (by decide : B 0 0 0) (by decide) (by decide) rfl rfl rfl fl_X10_234 rfl rfl rfl rfl rfl (fun h13 hJ13 k13 => ?_)
  refine ev_aload_n rfl rfl rfl ?_
  refine ev_iconst (v := 0) rfl rfl (by decide) ?_
  refine ev_puzW (l := (-2147483648)) (u := 2147483647) hJ13 rfl ((by decide : B 0 0 0).mono (by decide) (by decide)) (by decide) (by decide) rfl rfl rfl fl_X10_237 rfl rfl rfl rfl rfl (fun h14 hJ14 k14 => ?_)
  refine ev_iconst (v := 1) rfl rfl (by decide) ?_
  refine ev_istore_n rfl rfl rfl rfl ?_
  dsimp only [List.set]
  have lp19_1414 : ∀ (n : Nat) (w1415 : Int32) (w1416 : Int32) (h1419 : Hp), B w1415 0 1 → B w1416 1 1 → JW [(63, 17), (63, 18), (63, 19), (63, 20), (63, 21), (63, 22), (63, 27), (63, 28), (63, 31), (75, 999), (76, 999), (77, 999)] h h1419 → (h1419 63 16 = f1) → ((0 < (h1419 63 31).toInt → (h1419 76 0).toInt ≤ (h1419 63 27).toInt)) → ((1 < (h1419 63 31).toInt → (h1419 76 0).toInt ≤ (h1419 76 1).toInt ∧ (h1419 76 1).toInt ≤ (h1419 63 27).toInt)) → ((2 < (h1419 63 31).toInt → (h1419 76 1).toInt ≤ (h1419 76 2).toInt ∧ (h1419 76 2).toInt ≤ (h1419 63 27).toInt)) → ((3 < (h1419 63 31).toInt → (h1419 76 2).toInt ≤ (h1419 76 3).toInt ∧ (h1419 76 3).toInt ≤ (h1419 63 27).toInt)) → ((h1419 63 17).toInt ≤ (h1419 63 16).toInt) → ((h1419 63 21).toInt = 0 → (h1419 63 19).toInt = 1 → 0 ≤ (h1419 63 20).toInt ∧ (h1419 63 20).toInt ≤ 4095) → mM (h1419 63 21) (h1419 63 17) (h1419 63 19) ≤ (n : Int) → EvQ mi_X10_readTune 19 [some (.ref 63), some (.int w1415), some (.int w1416), none] [] (G0 L b) h1419 0 0 (QK (fun z : Hp => ((z 63 21).toInt = 0 → (z 63 27).toInt ≤ 24)) [(63, 17), (63, 18), (63, 19), (63, 20), (63, 21), (63, 22), (63, 27), (63, 28), (63, 31), (75, 999), (76, 999), (77, 999)] (G0 L b) h) := by
    intro n
    induction n with
    | zero =>
      intro w1415 w1416 h1419 b1417 b1418 hJ1420 z1421 y19_0 y19_1 y19_2 y19_3 y19_4 y19_5 hm19
      exact absurd hm19 (by have z_ := mM_pos (h1419 63 21) (h1419 63 17) (h1419 63 19) (hJ1420.1 63 17); omega)
    | succ n ih19 =>
      intro w1415 w1416 h1419 b1417 b1418 hJ1420 z1421 y19_0 y19_1 y19_2 y19_3 y19_4 y19_5 hm19
      obtain ⟨f1422, ef1422⟩ : ∃ f_, h1419 63 17 = f_ := ⟨_, rfl⟩
      have bf1422 : B f1422 0 160 := by have z_ := hJ1420.1 63 17; rw [ef1422] at z_; exact z_
      have zf1422 := congrArg Int32.toInt ef1422
      obtain ⟨f1423, ef1423⟩ : ∃ f_, h1419 63 21 = f_ := ⟨_, rfl⟩
      have bf1423 : B f1423 0 6 := by have z_ := hJ1420.1 63 21; rw [ef1423] at z_; exact z_
      have zf1423 := congrArg Int32.toInt ef1423
      obtain ⟨f1424, ef1424⟩ : ∃ f_, h1419 63 20 = f_ := ⟨_, rfl⟩
      have zf1424 := congrArg Int32.toInt ef1424
      obtain ⟨f1425, ef1425⟩ : ∃ f_, h1419 63 19 = f_ := ⟨_, rfl⟩
      have bf1425 : B f1425 0 3 := by have z_ := hJ1420.1 63 19; rw [ef1425] at z_; exact z_
      have zf1425 := congrArg Int32.toInt ef1425
      obtain ⟨f1426, ef1426⟩ : ∃ f_, h1419 63 27 = f_ := ⟨_, rfl⟩
      have bf1426 : B f1426 0 60 := by have z_ := hJ1420.1 63 27; rw [ef1426] at z_; exact z_
      have zf1426 := congrArg Int32.toInt ef1426
      obtain ⟨f1427, ef1427⟩ : ∃ f_, h1419 63 31 = f_ := ⟨_, rfl⟩
      have bf1427 : B f1427 0 4 := by have z_ := hJ1420.1 63 31; rw [ef1427] at z_; exact z_
      have zf1427 := congrArg Int32.toInt ef1427
      obtain ⟨f1428, ef1428⟩ : ∃ f_, h1419 76 0 = f_ := ⟨_, rfl⟩
      have bf1428 : B f1428 0 60 := by have z_ := hJ1420.1 76 0; rw [ef1428] at z_; exact z_
      have zf1428 := congrArg Int32.toInt ef1428
      obtain ⟨f1429, ef1429⟩ : ∃ f_, h1419 76 1 = f_ := ⟨_, rfl⟩
      have bf1429 : B f1429 0 60 := by have z_ := hJ1420.1 76 1; rw [ef1429] at z_; exact z_
      have zf1429 := congrArg Int32.toInt ef1429
      obtain ⟨f1430, ef1430⟩ : ∃ f_, h1419 76 2 = f_ := ⟨_, rfl⟩
      have bf1430 : B f1430 0 60 := by have z_ := hJ1420.1 76 2; rw [ef1430] at z_; exact z_
      have zf1430 := congrArg Int32.toInt ef1430
      obtain ⟨f1431, ef1431⟩ : ∃ f_, h1419 76 3 = f_ := ⟨_, rfl⟩
      have bf1431 : B f1431 0 60 := by have z_ := hJ1420.1 76 3; rw [ef1431] at z_; exact z_
      have zf1431 := congrArg Int32.toInt ef1431
      have z1432 := congrArg Int32.toInt z1421
      refine ev_iload_n rfl rfl rfl ?_
      refine ev_if_eq rfl rfl (fun c1433 => absurd c1433 (D_ne b1418 (by decide : B 0 0 0) (by decide))) (fun c1433 => ?_)
      have z1434 := w_ne c1433
      rw [show (0 : Int32).toInt = 0 from by decide] at z1434
      refine ev_aload_n rfl rfl rfl ?_
      refine ev_getV (v := f1423) rfl rfl fl_X10_191 rfl rfl rfl ef1423 ?_
      refine ev_if_ne rfl rfl (fun c1435 => ?_) (fun c1435 => ?_)
      · have b1436 : B f1423 1 6 := R_neL bf1423 (by decide : B 0 0 0) c1435 (by decide)
        have z1437 := w_ne c1435
        rw [show (0 : Int32).toInt = 0 from by decide] at z1437
        refine ev_aload_n rfl rfl rfl ?_
        refine ev_getV (v := f1423) rfl rfl fl_X10_191 rfl rfl rfl ef1423 ?_
        refine ev_if_ne rfl rfl (fun c1440 => ?_) (fun c1440 => absurd c1440 (D_ne b1436 (by decide : B 0 0 0) (by decide)))
        have z1441 := w_ne c1440
        rw [show (0 : Int32).toInt = 0 from by decide] at z1441
        exact ev_vret rfl rfl trivial ⟨rfl, rfl, hJ1420, (by have z0_ := congrArg Int32.toInt ef1423; have z1_ := congrArg Int32.toInt ef1426; have z_ := w_lits; have zl_ := l_lits; omega)⟩
      · have b1438 : B f1423 0 0 := R_eqX bf1423 (by decide : B 0 0 0) c1435
        have z1439 := congrArg Int32.toInt c1435
        rw [show (0 : Int32).toInt = 0 from by decide] at z1439
        refine ev_aload_n rfl rfl rfl ?_
        refine ev_getV (v := f1425) rfl rfl fl_X10_204 rfl rfl rfl ef1425 ?_
        refine ev_iconst (v := 1) rfl rfl (by decide) ?_
        refine ev_icmp_eq rfl rfl (fun c1442 => ?_) (fun c1442 => ?_)
        · have b1443 : B f1425 1 1 := R_eqX bf1425 (by decide : B 1 1 1) c1442
          have z1444 := congrArg Int32.toInt c1442
          rw [show (1 : Int32).toInt = 1 from by decide] at z1444
          exact (w_rt47 L b h h1419 hJ1420 _ w1415 b1417 w1416 b1418 (by have z0_ := congrArg Int32.toInt ef1426; have z1_ := congrArg Int32.toInt ef1427; have z2_ := congrArg Int32.toInt ef1428; have z_ := w_lits; have zl_ := l_lits; omega) (by have z0_ := congrArg Int32.toInt ef1426; have z1_ := congrArg Int32.toInt ef1427; have z2_ := congrArg Int32.toInt ef1428; have z3_ := congrArg Int32.toInt ef1429; have z_ := w_lits; have zl_ := l_lits; omega) (by have z0_ := congrArg Int32.toInt ef1426; have z1_ := congrArg Int32.toInt ef1427; have z2_ := congrArg Int32.toInt ef1429; have z3_ := congrArg Int32.toInt ef1430; have z_ := w_lits; have zl_ := l_lits; omega) (by have z0_ := congrArg Int32.toInt ef1426; have z1_ := congrArg Int32.toInt ef1427; have z2_ := congrArg Int32.toInt ef1430; have z3_ := congrArg Int32.toInt ef1431; have z_ := w_lits; have zl_ := l_lits; omega) (by have z0_ := congrArg Int32.toInt z1421; have z1_ := congrArg Int32.toInt ef1422; have z_ := w_lits; have zl_ := l_lits; omega) (by have z0_ := congrArg Int32.toInt ef1423; have z1_ := congrArg Int32.toInt ef1424; have z2_ := congrArg Int32.toInt ef1425; have z_ := w_lits; have zl_ := l_lits; omega) (by have z0_ := congrArg Int32.toInt ef1423; have z_ := w_lits; have zl_ := l_lits; omega) (by have z0_ := congrArg Int32.toInt ef1425; have z_ := w_lits; have zl_ := l_lits; omega) (fun m1_ h_ b1_ j_ r0_ r1_ r2_ r3_ r4_ r5_ rd_ => ih19 m1_ w1416 h_ b1_ b1418 j_ ((j_.2 63 16 rfl).trans ef1) r0_ r1_ r2_ r3_ r4_ r5_ (mM_dec hm19 (by have z0_ := congrArg Int32.toInt z1421; have z1_ := congrArg Int32.toInt ef1422; have z2_ := congrArg Int32.toInt ef1423; have z3_ := congrArg Int32.toInt ef1424; have z4_ := congrArg Int32.toInt ef1425; have z5_ := congrArg Int32.toInt ef1426; have z6_ := congrArg Int32.toInt ef1427; have z7_ := congrArg Int32.toInt ef1428; have z8_ := congrArg Int32.toInt ef1429; have z9_ := congrArg Int32.toInt ef1430; have z10_ := congrArg Int32.toInt ef1431; have z_ := w_lits; have zl_ := l_lits; omega) (by have z0_ := congrArg Int32.toInt z1421; have z1_ := congrArg Int32.toInt ef1422; have z2_ := congrArg Int32.toInt ef1423; have z3_ := congrArg Int32.toInt ef1424; have z4_ := congrArg Int32.toInt ef1425; have z5_ := congrArg Int32.toInt ef1426; have z6_ := congrArg Int32.toInt ef1427; have z7_ := congrArg Int32.toInt ef1428; have z8_ := congrArg Int32.toInt ef1429; have z9_ := congrArg Int32.toInt ef1430; have z10_ := congrArg Int32.toInt ef1431; have z_ := w_lits; have zl_ := l_lits; omega) (by have z0_ := congrArg Int32.toInt z1421; have z1_ := congrArg Int32.toInt ef1422; have z2_ := congrArg Int32.toInt ef1423; have z3_ := congrArg Int32.toInt ef1424; have z4_ := congrArg Int32.toInt ef1425; have z5_ := congrArg Int32.toInt ef1426; have z6_ := congrArg Int32.toInt ef1427; have z7_ := congrArg Int32.toInt ef1428; have z8_ := congrArg Int32.toInt ef1429; have z9_ := congrArg Int32.toInt ef1430; have z10_ := congrArg Int32.toInt ef1431; have z11_ := rd_; have z_ := w_lits; have zl_ := l_lits; omega))))
        · have z1445 := w_ne c1442
          rw [show (1 : Int32).toInt = 1 from by decide] at z1445
          refine ev_aload_n rfl rfl rfl ?_
          refine ev_bipush (v := 46) rfl rfl (by decide) ?_
          refine ev_V1P rfl rfl lk_X10_244 vt_X10_isSign rfl rfl rfl rfl rfl (w_X10_isSign_63 L b h1419 hJ1420.1 46) (fun r1446 q1446 => ?_)
          obtain ⟨b1446, pp1446_0⟩ := q1446
          refine ev_if_eq rfl rfl (fun c1447 => ?_) (fun c1447 => ?_)
          · have b1448 : B r1446 0 0 := R_eqX b1446 (by decide : B 0 0 0) c1447
            have z1449 := congrArg Int32.toInt c1447
            rw [show (0 : Int32).toInt = 0 from by decide] at z1449
            refine ev_aload_n rfl rfl rfl ?_
            refine ev_getV (v := f1425) rfl rfl fl_X10_204 rfl rfl rfl ef1425 ?_
            refine ev_iconst (v := 2) rfl rfl (by decide) ?_
            refine ev_icmp_ne rfl rfl (fun c1452 => ?_) (fun c1452 => ?_)
            · have z1453 := w_ne c1452
              rw [show (2 : Int32).toInt = 2 from by decide] at z1453
              refine ev_aload_n rfl rfl rfl ?_
              refine ev_bipush (v := 41) rfl rfl (by decide) ?_
              refine ev_V1P rfl rfl lk_X10_244 vt_X10_isSign rfl rfl rfl rfl rfl (w_X10_isSign_63 L b h1419 hJ1420.1 41) (fun r1456 q1456 => ?_)
              obtain ⟨b1456, pp1456_0⟩ := q1456
              refine ev_if_eq rfl rfl (fun c1457 => ?_) (fun c1457 => ?_)
              · have b1458 : B r1456 0 0 := R_eqX b1456 (by decide : B 0 0 0) c1457
                have z1459 := congrArg Int32.toInt c1457
                rw [show (0 : Int32).toInt = 0 from by decide] at z1459
                refine ev_aload_n rfl rfl rfl ?_
                refine ev_aload_n rfl rfl rfl ?_
                refine ev_getV (v := f1425) rfl rfl fl_X10_204 rfl rfl rfl ef1425 ?_
                refine ev_if_ne rfl rfl (fun c1462 => ?_) (fun c1462 => ?_)
                · have b1463 : B f1425 1 3 := R_neL bf1425 (by decide : B 0 0 0) c1462 (by decide)
                  have z1464 := w_ne c1462
                  rw [show (0 : Int32).toInt = 0 from by decide] at z1464
                  refine ev_iconst (v := 0) rfl rfl (by decide) ?_
                  refine ev_iconst (v := 2) rfl rfl (by decide) ?_
                  refine ev_V2K hJ1420 rfl rfl rfl lk_X10_230 vt_X10_wants rfl rfl rfl rfl rfl (w_X10_wants_63 L b h1419 hJ1420.1 0 ((by decide : B 0 0 0).mono (by decide) (by decide)) 2 ((by decide : B 2 2 2).mono (by decide) (by decide))) (fun h1467 hJ1467 k1467 m1467 => ?_)
                  obtain ⟨f1468, ef1468⟩ : ∃ f_, h1467 63 21 = f_ := ⟨_, rfl⟩
                  have bf1468 : B f1468 0 6 := by have z_ := hJ1467.1 63 21; rw [ef1468] at z_; exact z_
                  have zf1468 := congrArg Int32.toInt ef1468
                  refine ev_iconst (v := 0) rfl rfl (by decide) ?_
                  refine ev_istore_n rfl rfl rfl rfl ?_
                  dsimp only [List.set]
                  refine ev_goto rfl rfl ?_
                  refine ev_iload_n rfl rfl rfl ?_
                  refine ev_if_eq rfl rfl (fun c1469 => ?_) (fun c1469 => absurd (D_eq (by decide : B 0 0 0) (by decide : B 0 0 0)) c1469)
                  have z1470 := congrArg Int32.toInt c1469
                  rw [show (0 : Int32).toInt = 0 from by decide] at z1470
                  refine ev_aload_n rfl rfl rfl ?_
                  refine ev_getV (v := f1468) rfl rfl fl_X10_191 rfl rfl rfl ef1468 ?_
                  refine ev_if_ne rfl rfl (fun c1471 => ?_) (fun c1471 => ?_)
                  · have b1472 : B f1468 1 6 := R_neL bf1468 (by decide : B 0 0 0) c1471 (by decide)
                    have z1473 := w_ne c1471
                    rw [show (0 : Int32).toInt = 0 from by decide] at z1473
                    exact ev_vret rfl rfl trivial ⟨rfl, rfl, hJ1467, (by have z0_ := congrArg Int32.toInt ef1468; have z1_ := congrArg Int32.toInt (rd_w k1467 ef1426 rfl); have z_ := w_lits; have zl_ := l_lits; omega)⟩
                  · have b1474 : B f1468 0 0 := R_eqX bf1468 (by decide : B 0 0 0) c1471
                    have z1475 := congrArg Int32.toInt c1471
                    rw [show (0 : Int32).toInt = 0 from by decide] at z1475
                    refine ev_aload_n rfl rfl rfl ?_
                    refine ev_getW (l := (-2147483648)) (u := 2147483647) hJ1467.1 rfl rfl rfl fl_X10_237 rfl rfl rfl (fun v1476 b1476 e1476 => ?_)
                    refine ev_if_ne rfl rfl (fun c1477 => ?_) (fun c1477 => ?_)
                    · have z1478 := w_ne c1477
                      rw [show (0 : Int32).toInt = 0 from by decide] at z1478
                      refine ev_aload_n rfl rfl rfl ?_
                      refine ev_bipush (v := 6) rfl rfl (by decide) ?_
                      refine ev_iconst (v := 0) rfl rfl (by decide) ?_
                      refine ev_V2K hJ1467 rfl rfl rfl lk_X10_200 vt_X10_fails rfl rfl rfl rfl rfl (w_X10_fails_63 L b h1467 hJ1467.1 6 ((by decide : B 6 6 6).mono (by decide) (by decide)) 0) (fun h1481 hJ1481 k1481 m1481 => ?_)
                      obtain ⟨f1482, ef1482⟩ : ∃ f_, h1481 63 21 = f_ := ⟨_, rfl⟩
                      have bf1482 : B f1482 0 6 := by have z_ := hJ1481.1 63 21; rw [ef1482] at z_; exact z_
                      have zf1482 := congrArg Int32.toInt ef1482
                      exact ev_vret rfl rfl trivial ⟨rfl, rfl, hJ1481, (by have z0_ := congrArg Int32.toInt ef1482; have z1_ := congrArg Int32.toInt (rd_w k1481 (rd_w k1467 ef1426 rfl) rfl); have z_ := w_lits; have zl_ := l_lits; omega)⟩
                    · have b1479 : B v1476 0 0 := R_eqX (B.any v1476) (by decide : B 0 0 0) c1477
                      have z1480 := congrArg Int32.toInt c1477
                      rw [show (0 : Int32).toInt = 0 from by decide] at z1480
                      refine ev_aload_n rfl rfl rfl ?_
                      refine ev_getV (v := f1426) rfl rfl fl_X10_234 rfl rfl rfl (rd_w k1467 ef1426 rfl) ?_
                      refine ev_bipush (v := 24) rfl rfl (by decide) ?_
                      refine ev_icmp_le rfl rfl (fun c1483 => ?_) (fun c1483 => ?_)
                      · have b1484 : B f1426 0 24 := R_leX bf1426 (by decide : B 24 24 24) c1483 (by decide)
                        have z1485 := w_le c1483
                        rw [show (24 : Int32).toInt = 24 from by decide] at z1485
                        exact ev_vret rfl rfl trivial ⟨rfl, rfl, hJ1467, (by have z0_ := congrArg Int32.toInt ef1468; have z1_ := congrArg Int32.toInt (rd_w k1467 ef1426 rfl); have z_ := w_lits; have zl_ := l_lits; omega)⟩
                      · have b1486 : B f1426 25 60 := R_ltY (by decide : B 24 24 24) bf1426 (Int32.not_le.mp c1483) (by decide)
                        have z1487 := w_lt (Int32.not_le.mp c1483)
                        rw [show (24 : Int32).toInt = 24 from by decide] at z1487
                        refine ev_aload_n rfl rfl rfl ?_
                        refine ev_bipush (v := 6) rfl rfl (by decide) ?_
                        refine ev_iconst (v := 0) rfl rfl (by decide) ?_
                        refine ev_V2K hJ1467 rfl rfl rfl lk_X10_200 vt_X10_fails rfl rfl rfl rfl rfl (w_X10_fails_63 L b h1467 hJ1467.1 6 ((by decide : B 6 6 6).mono (by decide) (by decide)) 0) (fun h1488 hJ1488 k1488 m1488 => ?_)
                        obtain ⟨f1489, ef1489⟩ : ∃ f_, h1488 63 21 = f_ := ⟨_, rfl⟩
                        have bf1489 : B f1489 0 6 := by have z_ := hJ1488.1 63 21; rw [ef1489] at z_; exact z_
                        have zf1489 := congrArg Int32.toInt ef1489
                        exact ev_vret rfl rfl trivial ⟨rfl, rfl, hJ1488, (by have z0_ := congrArg Int32.toInt ef1489; have z1_ := congrArg Int32.toInt (rd_w k1488 (rd_w k1467 ef1426 rfl) rfl); have z_ := w_lits; have zl_ := l_lits; omega)⟩
                · have b1465 : B f1425 0 0 := R_eqX bf1425 (by decide : B 0 0 0) c1462
                  have z1466 := congrArg Int32.toInt c1462
                  rw [show (0 : Int32).toInt = 0 from by decide] at z1466
                  refine ev_aload_n rfl rfl rfl ?_
                  refine ev_getV (v := f1427) rfl rfl fl_X10_241 rfl rfl rfl ef1427 ?_
                  refine ev_if_ne rfl rfl (fun c1490 => ?_) (fun c1490 => ?_)
                  · have b1491 : B f1427 1 4 := R_neL bf1427 (by decide : B 0 0 0) c1490 (by decide)
                    have z1492 := w_ne c1490
                    rw [show (0 : Int32).toInt = 0 from by decide] at z1492
                    refine ev_iconst (v := 0) rfl rfl (by decide) ?_
                    refine ev_iconst (v := 2) rfl rfl (by decide) ?_
                    refine ev_V2K hJ1420 rfl rfl rfl lk_X10_230 vt_X10_wants rfl rfl rfl rfl rfl (w_X10_wants_63 L b h1419 hJ1420.1 0 ((by decide : B 0 0 0).mono (by decide) (by decide)) 2 ((by decide : B 2 2 2).mono (by decide) (by decide))) (fun h1495 hJ1495 k1495 m1495 => ?_)
                    obtain ⟨f1496, ef1496⟩ : ∃ f_, h1495 63 21 = f_ := ⟨_, rfl⟩
                    have bf1496 : B f1496 0 6 := by have z_ := hJ1495.1 63 21; rw [ef1496] at z_; exact z_
                    have zf1496 := congrArg Int32.toInt ef1496
                    refine ev_iconst (v := 0) rfl rfl (by decide) ?_
                    refine ev_istore_n rfl rfl rfl rfl ?_
                    dsimp only [List.set]
                    refine ev_goto rfl rfl ?_
                    refine ev_iload_n rfl rfl rfl ?_
                    refine ev_if_eq rfl rfl (fun c1497 => ?_) (fun c1497 => absurd (D_eq (by decide : B 0 0 0) (by decide : B 0 0 0)) c1497)
                    have z1498 := congrArg Int32.toInt c1497
                    rw [show (0 : Int32).toInt = 0 from by decide] at z1498
                    refine ev_aload_n rfl rfl rfl ?_
                    refine ev_getV (v := f1496) rfl rfl fl_X10_191 rfl rfl rfl ef1496 ?_
                    refine ev_if_ne rfl rfl (fun c1499 => ?_) (fun c1499 => ?_)
                    · have b1500 : B f1496 1 6 := R_neL bf1496 (by decide : B 0 0 0) c1499 (by decide)
                      have z1501 := w_ne c1499
                      rw [show (0 : Int32).toInt = 0 from by decide] at z1501
                      exact ev_vret rfl rfl trivial ⟨rfl, rfl, hJ1495, (by have z0_ := congrArg Int32.toInt ef1496; have z1_ := congrArg Int32.toInt (rd_w k1495 ef1426 rfl); have z_ := w_lits; have zl_ := l_lits; omega)⟩
                    · have b1502 : B f1496 0 0 := R_eqX bf1496 (by decide : B 0 0 0) c1499
                      have z1503 := congrArg Int32.toInt c1499
                      rw [show (0 : Int32).toInt = 0 from by decide] at z1503
                      refine ev_aload_n rfl rfl rfl ?_
                      refine ev_getW (l := (-2147483648)) (u := 2147483647) hJ1495.1 rfl rfl rfl fl_X10_237 rfl rfl rfl (fun v1504 b1504 e1504 => ?_)
                      refine ev_if_ne rfl rfl (fun c1505 => ?_) (fun c1505 => ?_)
                      · have z1506 := w_ne c1505
                        rw [show (0 : Int32).toInt = 0 from by decide] at z1506
                        refine ev_aload_n rfl rfl rfl ?_
                        refine ev_bipush (v := 6) rfl rfl (by decide) ?_
                        refine ev_iconst (v := 0) rfl rfl (by decide) ?_
                        refine ev_V2K hJ1495 rfl rfl rfl lk_X10_200 vt_X10_fails rfl rfl rfl rfl rfl (w_X10_fails_63 L b h1495 hJ1495.1 6 ((by decide : B 6 6 6).mono (by decide) (by decide)) 0) (fun h1509 hJ1509 k1509 m1509 => ?_)
                        obtain ⟨f1510, ef1510⟩ : ∃ f_, h1509 63 21 = f_ := ⟨_, rfl⟩
                        have bf1510 : B f1510 0 6 := by have z_ := hJ1509.1 63 21; rw [ef1510] at z_; exact z_
                        have zf1510 := congrArg Int32.toInt ef1510
                        exact ev_vret rfl rfl trivial ⟨rfl, rfl, hJ1509, (by have z0_ := congrArg Int32.toInt ef1510; have z1_ := congrArg Int32.toInt (rd_w k1509 (rd_w k1495 ef1426 rfl) rfl); have z_ := w_lits; have zl_ := l_lits; omega)⟩
                      · have b1507 : B v1504 0 0 := R_eqX (B.any v1504) (by decide : B 0 0 0) c1505
                        have z1508 := congrArg Int32.toInt c1505
                        rw [show (0 : Int32).toInt = 0 from by decide] at z1508
                        refine ev_aload_n rfl rfl rfl ?_
                        refine ev_getV (v := f1426) rfl rfl fl_X10_234 rfl rfl rfl (rd_w k1495 ef1426 rfl) ?_
                        refine ev_bipush (v := 24) rfl rfl (by decide) ?_
                        refine ev_icmp_le rfl rfl (fun c1511 => ?_) (fun c1511 => ?_)
                        · have b1512 : B f1426 0 24 := R_leX bf1426 (by decide : B 24 24 24) c1511 (by decide)
                          have z1513 := w_le c1511
                          rw [show (24 : Int32).toInt = 24 from by decide] at z1513
                          exact ev_vret rfl rfl trivial ⟨rfl, rfl, hJ1495, (by have z0_ := congrArg Int32.toInt ef1496; have z1_ := congrArg Int32.toInt (rd_w k1495 ef1426 rfl); have z_ := w_lits; have zl_ := l_lits; omega)⟩
                        · have b1514 : B f1426 25 60 := R_ltY (by decide : B 24 24 24) bf1426 (Int32.not_le.mp c1511) (by decide)
                          have z1515 := w_lt (Int32.not_le.mp c1511)
                          rw [show (24 : Int32).toInt = 24 from by decide] at z1515
                          refine ev_aload_n rfl rfl rfl ?_
                          refine ev_bipush (v := 6) rfl rfl (by decide) ?_
                          refine ev_iconst (v := 0) rfl rfl (by decide) ?_
                          refine ev_V2K hJ1495 rfl rfl rfl lk_X10_200 vt_X10_fails rfl rfl rfl rfl rfl (w_X10_fails_63 L b h1495 hJ1495.1 6 ((by decide : B 6 6 6).mono (by decide) (by decide)) 0) (fun h1516 hJ1516 k1516 m1516 => ?_)
                          obtain ⟨f1517, ef1517⟩ : ∃ f_, h1516 63 21 = f_ := ⟨_, rfl⟩
                          have bf1517 : B f1517 0 6 := by have z_ := hJ1516.1 63 21; rw [ef1517] at z_; exact z_
                          have zf1517 := congrArg Int32.toInt ef1517
                          exact ev_vret rfl rfl trivial ⟨rfl, rfl, hJ1516, (by have z0_ := congrArg Int32.toInt ef1517; have z1_ := congrArg Int32.toInt (rd_w k1516 (rd_w k1495 ef1426 rfl) rfl); have z_ := w_lits; have zl_ := l_lits; omega)⟩
                  · have b1493 : B f1427 0 0 := R_eqX bf1427 (by decide : B 0 0 0) c1490
                    have z1494 := congrArg Int32.toInt c1490
                    rw [show (0 : Int32).toInt = 0 from by decide] at z1494
                    refine ev_iload_n rfl rfl rfl ?_
                    refine ev_if_ne rfl rfl (fun c1518 => ?_) (fun c1518 => ?_)
                    · have b1519 : B w1415 1 1 := R_neL b1417 (by decide : B 0 0 0) c1518 (by decide)
                      have z1520 := w_ne c1518
                      rw [show (0 : Int32).toInt = 0 from by decide] at z1520
                      refine ev_iconst (v := 0) rfl rfl (by decide) ?_
                      refine ev_iconst (v := 2) rfl rfl (by decide) ?_
                      refine ev_V2K hJ1420 rfl rfl rfl lk_X10_230 vt_X10_wants rfl rfl rfl rfl rfl (w_X10_wants_63 L b h1419 hJ1420.1 0 ((by decide : B 0 0 0).mono (by decide) (by decide)) 2 ((by decide : B 2 2 2).mono (by decide) (by decide))) (fun h1523 hJ1523 k1523 m1523 => ?_)
                      obtain ⟨f1524, ef1524⟩ : ∃ f_, h1523 63 21 = f_ := ⟨_, rfl⟩
                      have bf1524 : B f1524 0 6 := by have z_ := hJ1523.1 63 21; rw [ef1524] at z_; exact z_
                      have zf1524 := congrArg Int32.toInt ef1524
                      refine ev_iconst (v := 0) rfl rfl (by decide) ?_
                      refine ev_istore_n rfl rfl rfl rfl ?_
                      dsimp only [List.set]
                      refine ev_goto rfl rfl ?_
                      refine ev_iload_n rfl rfl rfl ?_
                      refine ev_if_eq rfl rfl (fun c1525 => ?_) (fun c1525 => absurd (D_eq (by decide : B 0 0 0) (by decide : B 0 0 0)) c1525)
                      have z1526 := congrArg Int32.toInt c1525
                      rw [show (0 : Int32).toInt = 0 from by decide] at z1526
                      refine ev_aload_n rfl rfl rfl ?_
                      refine ev_getV (v := f1524) rfl rfl fl_X10_191 rfl rfl rfl ef1524 ?_
                      refine ev_if_ne rfl rfl (fun c1527 => ?_) (fun c1527 => ?_)
                      · have b1528 : B f1524 1 6 := R_neL bf1524 (by decide : B 0 0 0) c1527 (by decide)
                        have z1529 := w_ne c1527
                        rw [show (0 : Int32).toInt = 0 from by decide] at z1529
                        exact ev_vret rfl rfl trivial ⟨rfl, rfl, hJ1523, (by have z0_ := congrArg Int32.toInt ef1524; have z1_ := congrArg Int32.toInt (rd_w k1523 ef1426 rfl); have z_ := w_lits; have zl_ := l_lits; omega)⟩
                      · have b1530 : B f1524 0 0 := R_eqX bf1524 (by decide : B 0 0 0) c1527
                        have z1531 := congrArg Int32.toInt c1527
                        rw [show (0 : Int32).toInt = 0 from by decide] at z1531
                        refine ev_aload_n rfl rfl rfl ?_
                        refine ev_getW (l := (-2147483648)) (u := 2147483647) hJ1523.1 rfl rfl rfl fl_X10_237 rfl rfl rfl (fun v1532 b1532 e1532 => ?_)
                        refine ev_if_ne rfl rfl (fun c1533 => ?_) (fun c1533 => ?_)
                        · have z1534 := w_ne c1533
                          rw [show (0 : Int32).toInt = 0 from by decide] at z1534
                          refine ev_aload_n rfl rfl rfl ?_
                          refine ev_bipush (v := 6) rfl rfl (by decide) ?_
                          refine ev_iconst (v := 0) rfl rfl (by decide) ?_
                          refine ev_V2K hJ1523 rfl rfl rfl lk_X10_200 vt_X10_fails rfl rfl rfl rfl rfl (w_X10_fails_63 L b h1523 hJ1523.1 6 ((by decide : B 6 6 6).mono (by decide) (by decide)) 0) (fun h1537 hJ1537 k1537 m1537 => ?_)
                          obtain ⟨f1538, ef1538⟩ : ∃ f_, h1537 63 21 = f_ := ⟨_, rfl⟩
                          have bf1538 : B f1538 0 6 := by have z_ := hJ1537.1 63 21; rw [ef1538] at z_; exact z_
                          have zf1538 := congrArg Int32.toInt ef1538
                          exact ev_vret rfl rfl trivial ⟨rfl, rfl, hJ1537, (by have z0_ := congrArg Int32.toInt ef1538; have z1_ := congrArg Int32.toInt (rd_w k1537 (rd_w k1523 ef1426 rfl) rfl); have z_ := w_lits; have zl_ := l_lits; omega)⟩
                        · have b1535 : B v1532 0 0 := R_eqX (B.any v1532) (by decide : B 0 0 0) c1533
                          have z1536 := congrArg Int32.toInt c1533
                          rw [show (0 : Int32).toInt = 0 from by decide] at z1536
                          refine ev_aload_n rfl rfl rfl ?_
                          refine ev_getV (v := f1426) rfl rfl fl_X10_234 rfl rfl rfl (rd_w k1523 ef1426 rfl) ?_
                          refine ev_bipush (v := 24) rfl rfl (by decide) ?_
                          refine ev_icmp_le rfl rfl (fun c1539 => ?_) (fun c1539 => ?_)
                          · have b1540 : B f1426 0 24 := R_leX bf1426 (by decide : B 24 24 24) c1539 (by decide)
                            have z1541 := w_le c1539
                            rw [show (24 : Int32).toInt = 24 from by decide] at z1541
                            exact ev_vret rfl rfl trivial ⟨rfl, rfl, hJ1523, (by have z0_ := congrArg Int32.toInt ef1524; have z1_ := congrArg Int32.toInt (rd_w k1523 ef1426 rfl); have z_ := w_lits; have zl_ := l_lits; omega)⟩
                          · have b1542 : B f1426 25 60 := R_ltY (by decide : B 24 24 24) bf1426 (Int32.not_le.mp c1539) (by decide)
                            have z1543 := w_lt (Int32.not_le.mp c1539)
                            rw [show (24 : Int32).toInt = 24 from by decide] at z1543
                            refine ev_aload_n rfl rfl rfl ?_
                            refine ev_bipush (v := 6) rfl rfl (by decide) ?_
                            refine ev_iconst (v := 0) rfl rfl (by decide) ?_
                            refine ev_V2K hJ1523 rfl rfl rfl lk_X10_200 vt_X10_fails rfl rfl rfl rfl rfl (w_X10_fails_63 L b h1523 hJ1523.1 6 ((by decide : B 6 6 6).mono (by decide) (by decide)) 0) (fun h1544 hJ1544 k1544 m1544 => ?_)
                            obtain ⟨f1545, ef1545⟩ : ∃ f_, h1544 63 21 = f_ := ⟨_, rfl⟩
                            have bf1545 : B f1545 0 6 := by have z_ := hJ1544.1 63 21; rw [ef1545] at z_; exact z_
                            have zf1545 := congrArg Int32.toInt ef1545
                            exact ev_vret rfl rfl trivial ⟨rfl, rfl, hJ1544, (by have z0_ := congrArg Int32.toInt ef1545; have z1_ := congrArg Int32.toInt (rd_w k1544 (rd_w k1523 ef1426 rfl) rfl); have z_ := w_lits; have zl_ := l_lits; omega)⟩
                    · have b1521 : B w1415 0 0 := R_eqX b1417 (by decide : B 0 0 0) c1518
                      have z1522 := congrArg Int32.toInt c1518
                      rw [show (0 : Int32).toInt = 0 from by decide] at z1522
                      refine ev_iconst (v := 1) rfl rfl (by decide) ?_
                      refine ev_goto rfl rfl ?_
                      refine ev_iconst (v := 2) rfl rfl (by decide) ?_
                      refine ev_V2K hJ1420 rfl rfl rfl lk_X10_230 vt_X10_wants rfl rfl rfl rfl rfl (w_X10_wants_63 L b h1419 hJ1420.1 1 ((by decide : B 1 1 1).mono (by decide) (by decide)) 2 ((by decide : B 2 2 2).mono (by decide) (by decide))) (fun h1546 hJ1546 k1546 m1546 => ?_)
                      obtain ⟨f1547, ef1547⟩ : ∃ f_, h1546 63 21 = f_ := ⟨_, rfl⟩
                      have bf1547 : B f1547 0 6 := by have z_ := hJ1546.1 63 21; rw [ef1547] at z_; exact z_
                      have zf1547 := congrArg Int32.toInt ef1547
                      refine ev_iconst (v := 0) rfl rfl (by decide) ?_
                      refine ev_istore_n rfl rfl rfl rfl ?_
                      dsimp only [List.set]
                      refine ev_goto rfl rfl ?_
                      refine ev_iload_n rfl rfl rfl ?_
                      refine ev_if_eq rfl rfl (fun c1548 => ?_) (fun c1548 => absurd (D_eq (by decide : B 0 0 0) (by decide : B 0 0 0)) c1548)
                      have z1549 := congrArg Int32.toInt c1548
                      rw [show (0 : Int32).toInt = 0 from by decide] at z1549
                      refine ev_aload_n rfl rfl rfl ?_
                      refine ev_getV (v := f1547) rfl rfl fl_X10_191 rfl rfl rfl ef1547 ?_
                      refine ev_if_ne rfl rfl (fun c1550 => ?_) (fun c1550 => ?_)
                      · have b1551 : B f1547 1 6 := R_neL bf1547 (by decide : B 0 0 0) c1550 (by decide)
                        have z1552 := w_ne c1550
                        rw [show (0 : Int32).toInt = 0 from by decide] at z1552
                        exact ev_vret rfl rfl trivial ⟨rfl, rfl, hJ1546, (by have z0_ := congrArg Int32.toInt ef1547; have z1_ := congrArg Int32.toInt (rd_w k1546 ef1426 rfl); have z_ := w_lits; have zl_ := l_lits; omega)⟩
                      · have b1553 : B f1547 0 0 := R_eqX bf1547 (by decide : B 0 0 0) c1550
                        have z1554 := congrArg Int32.toInt c1550
                        rw [show (0 : Int32).toInt = 0 from by decide] at z1554
                        refine ev_aload_n rfl rfl rfl ?_
                        refine ev_getW (l := (-2147483648)) (u := 2147483647) hJ1546.1 rfl rfl rfl fl_X10_237 rfl rfl rfl (fun v1555 b1555 e1555 => ?_)
                        refine ev_if_ne rfl rfl (fun c1556 => ?_) (fun c1556 => ?_)
                        · have z1557 := w_ne c1556
                          rw [show (0 : Int32).toInt = 0 from by decide] at z1557
                          refine ev_aload_n rfl rfl rfl ?_
                          refine ev_bipush (v := 6) rfl rfl (by decide) ?_
                          refine ev_iconst (v := 0) rfl rfl (by decide) ?_
                          refine ev_V2K hJ1546 rfl rfl rfl lk_X10_200 vt_X10_fails rfl rfl rfl rfl rfl (w_X10_fails_63 L b h1546 hJ1546.1 6 ((by decide : B 6 6 6).mono (by decide) (by decide)) 0) (fun h1560 hJ1560 k1560 m1560 => ?_)
                          obtain ⟨f1561, ef1561⟩ : ∃ f_, h1560 63 21 = f_ := ⟨_, rfl⟩
                          have bf1561 : B f1561 0 6 := by have z_ := hJ1560.1 63 21; rw [ef1561] at z_; exact z_
                          have zf1561 := congrArg Int32.toInt ef1561
                          exact ev_vret rfl rfl trivial ⟨rfl, rfl, hJ1560, (by have z0_ := congrArg Int32.toInt ef1561; have z1_ := congrArg Int32.toInt (rd_w k1560 (rd_w k1546 ef1426 rfl) rfl); have z_ := w_lits; have zl_ := l_lits; omega)⟩
                        · have b1558 : B v1555 0 0 := R_eqX (B.any v1555) (by decide : B 0 0 0) c1556
                          have z1559 := congrArg Int32.toInt c1556
                          rw [show (0 : Int32).toInt = 0 from by decide] at z1559
                          refine ev_aload_n rfl rfl rfl ?_
                          refine ev_getV (v := f1426) rfl rfl fl_X10_234 rfl rfl rfl (rd_w k1546 ef1426 rfl) ?_
                          refine ev_bipush (v := 24) rfl rfl (by decide) ?_
                          refine ev_icmp_le rfl rfl (fun c1562 => ?_) (fun c1562 => ?_)
                          · have b1563 : B f1426 0 24 := R_leX bf1426 (by decide : B 24 24 24) c1562 (by decide)
                            have z1564 := w_le c1562
                            rw [show (24 : Int32).toInt = 24 from by decide] at z1564
                            exact ev_vret rfl rfl trivial ⟨rfl, rfl, hJ1546, (by have z0_ := congrArg Int32.toInt ef1547; have z1_ := congrArg Int32.toInt (rd_w k1546 ef1426 rfl); have z_ := w_lits; have zl_ := l_lits; omega)⟩
                          · have b1565 : B f1426 25 60 := R_ltY (by decide : B 24 24 24) bf1426 (Int32.not_le.mp c1562) (by decide)
                            have z1566 := w_lt (Int32.not_le.mp c1562)
                            rw [show (24 : Int32).toInt = 24 from by decide] at z1566
                            refine ev_aload_n rfl rfl rfl ?_
                            refine ev_bipush (v := 6) rfl rfl (by decide) ?_
                            refine ev_iconst (v := 0) rfl rfl (by decide) ?_
                            refine ev_V2K hJ1546 rfl rfl rfl lk_X10_200 vt_X10_fails rfl rfl rfl rfl rfl (w_X10_fails_63 L b h1546 hJ1546.1 6 ((by decide : B 6 6 6).mono (by decide) (by decide)) 0) (fun h1567 hJ1567 k1567 m1567 => ?_)
                            obtain ⟨f1568, ef1568⟩ : ∃ f_, h1567 63 21 = f_ := ⟨_, rfl⟩
                            have bf1568 : B f1568 0 6 := by have z_ := hJ1567.1 63 21; rw [ef1568] at z_; exact z_
                            have zf1568 := congrArg Int32.toInt ef1568
                            exact ev_vret rfl rfl trivial ⟨rfl, rfl, hJ1567, (by have z0_ := congrArg Int32.toInt ef1568; have z1_ := congrArg Int32.toInt (rd_w k1567 (rd_w k1546 ef1426 rfl) rfl); have z_ := w_lits; have zl_ := l_lits; omega)⟩
              · have b1460 : B r1456 1 1 := R_neL b1456 (by decide : B 0 0 0) c1457 (by decide)
                have z1461 := w_ne c1457
                rw [show (0 : Int32).toInt = 0 from by decide] at z1461
                refine ev_aload_n rfl rfl rfl ?_
                refine ev_getV (v := f1427) rfl rfl fl_X10_241 rfl rfl rfl ef1427 ?_
                refine ev_if_le rfl rfl (fun c1569 => ?_) (fun c1569 => ?_)
                · have b1570 : B f1427 0 0 := R_leX bf1427 (by decide : B 0 0 0) c1569 (by decide)
                  have z1571 := w_le c1569
                  rw [show (0 : Int32).toInt = 0 from by decide] at z1571
                  refine ev_aload_n rfl rfl rfl ?_
                  refine ev_aload_n rfl rfl rfl ?_
                  refine ev_getV (v := f1425) rfl rfl fl_X10_204 rfl rfl rfl ef1425 ?_
                  refine ev_if_ne rfl rfl (fun c1574 => ?_) (fun c1574 => ?_)
                  · have b1575 : B f1425 1 3 := R_neL bf1425 (by decide : B 0 0 0) c1574 (by decide)
                    have z1576 := w_ne c1574
                    rw [show (0 : Int32).toInt = 0 from by decide] at z1576
                    refine ev_iconst (v := 0) rfl rfl (by decide) ?_
                    refine ev_iconst (v := 2) rfl rfl (by decide) ?_
                    refine ev_V2K hJ1420 rfl rfl rfl lk_X10_230 vt_X10_wants rfl rfl rfl rfl rfl (w_X10_wants_63 L b h1419 hJ1420.1 0 ((by decide : B 0 0 0).mono (by decide) (by decide)) 2 ((by decide : B 2 2 2).mono (by decide) (by decide))) (fun h1579 hJ1579 k1579 m1579 => ?_)
                    obtain ⟨f1580, ef1580⟩ : ∃ f_, h1579 63 21 = f_ := ⟨_, rfl⟩
                    have bf1580 : B f1580 0 6 := by have z_ := hJ1579.1 63 21; rw [ef1580] at z_; exact z_
                    have zf1580 := congrArg Int32.toInt ef1580
                    refine ev_iconst (v := 0) rfl rfl (by decide) ?_
                    refine ev_istore_n rfl rfl rfl rfl ?_
                    dsimp only [List.set]
                    refine ev_goto rfl rfl ?_
                    refine ev_iload_n rfl rfl rfl ?_
                    refine ev_if_eq rfl rfl (fun c1581 => ?_) (fun c1581 => absurd (D_eq (by decide : B 0 0 0) (by decide : B 0 0 0)) c1581)
                    have z1582 := congrArg Int32.toInt c1581
                    rw [show (0 : Int32).toInt = 0 from by decide] at z1582
                    refine ev_aload_n rfl rfl rfl ?_
                    refine ev_getV (v := f1580) rfl rfl fl_X10_191 rfl rfl rfl ef1580 ?_
                    refine ev_if_ne rfl rfl (fun c1583 => ?_) (fun c1583 => ?_)
                    · have b1584 : B f1580 1 6 := R_neL bf1580 (by decide : B 0 0 0) c1583 (by decide)
                      have z1585 := w_ne c1583
                      rw [show (0 : Int32).toInt = 0 from by decide] at z1585
                      exact ev_vret rfl rfl trivial ⟨rfl, rfl, hJ1579, (by have z0_ := congrArg Int32.toInt ef1580; have z1_ := congrArg Int32.toInt (rd_w k1579 ef1426 rfl); have z_ := w_lits; have zl_ := l_lits; omega)⟩
                    · have b1586 : B f1580 0 0 := R_eqX bf1580 (by decide : B 0 0 0) c1583
                      have z1587 := congrArg Int32.toInt c1583
                      rw [show (0 : Int32).toInt = 0 from by decide] at z1587
                      refine ev_aload_n rfl rfl rfl ?_
                      refine ev_getW (l := (-2147483648)) (u := 2147483647) hJ1579.1 rfl rfl rfl fl_X10_237 rfl rfl rfl (fun v1588 b1588 e1588 => ?_)
                      refine ev_if_ne rfl rfl (fun c1589 => ?_) (fun c1589 => ?_)
                      · have z1590 := w_ne c1589
                        rw [show (0 : Int32).toInt = 0 from by decide] at z1590
                        refine ev_aload_n rfl rfl rfl ?_
                        refine ev_bipush (v := 6) rfl rfl (by decide) ?_
                        refine ev_iconst (v := 0) rfl rfl (by decide) ?_
                        refine ev_V2K hJ1579 rfl rfl rfl lk_X10_200 vt_X10_fails rfl rfl rfl rfl rfl (w_X10_fails_63 L b h1579 hJ1579.1 6 ((by decide : B 6 6 6).mono (by decide) (by decide)) 0) (fun h1593 hJ1593 k1593 m1593 => ?_)
                        obtain ⟨f1594, ef1594⟩ : ∃ f_, h1593 63 21 = f_ := ⟨_, rfl⟩
                        have bf1594 : B f1594 0 6 := by have z_ := hJ1593.1 63 21; rw [ef1594] at z_; exact z_
                        have zf1594 := congrArg Int32.toInt ef1594
                        exact ev_vret rfl rfl trivial ⟨rfl, rfl, hJ1593, (by have z0_ := congrArg Int32.toInt ef1594; have z1_ := congrArg Int32.toInt (rd_w k1593 (rd_w k1579 ef1426 rfl) rfl); have z_ := w_lits; have zl_ := l_lits; omega)⟩
                      · have b1591 : B v1588 0 0 := R_eqX (B.any v1588) (by decide : B 0 0 0) c1589
                        have z1592 := congrArg Int32.toInt c1589
                        rw [show (0 : Int32).toInt = 0 from by decide] at z1592
                        refine ev_aload_n rfl rfl rfl ?_
                        refine ev_getV (v := f1426) rfl rfl fl_X10_234 rfl rfl rfl (rd_w k1579 ef1426 rfl) ?_
                        refine ev_bipush (v := 24) rfl rfl (by decide) ?_
                        refine ev_icmp_le rfl rfl (fun c1595 => ?_) (fun c1595 => ?_)
                        · have b1596 : B f1426 0 24 := R_leX bf1426 (by decide : B 24 24 24) c1595 (by decide)
                          have z1597 := w_le c1595
                          rw [show (24 : Int32).toInt = 24 from by decide] at z1597
                          exact ev_vret rfl rfl trivial ⟨rfl, rfl, hJ1579, (by have z0_ := congrArg Int32.toInt ef1580; have z1_ := congrArg Int32.toInt (rd_w k1579 ef1426 rfl); have z_ := w_lits; have zl_ := l_lits; omega)⟩
                        · have b1598 : B f1426 25 60 := R_ltY (by decide : B 24 24 24) bf1426 (Int32.not_le.mp c1595) (by decide)
                          have z1599 := w_lt (Int32.not_le.mp c1595)
                          rw [show (24 : Int32).toInt = 24 from by decide] at z1599
                          refine ev_aload_n rfl rfl rfl ?_
                          refine ev_bipush (v := 6) rfl rfl (by decide) ?_
                          refine ev_iconst (v := 0) rfl rfl (by decide) ?_
                          refine ev_V2K hJ1579 rfl rfl rfl lk_X10_200 vt_X10_fails rfl rfl rfl rfl rfl (w_X10_fails_63 L b h1579 hJ1579.1 6 ((by decide : B 6 6 6).mono (by decide) (by decide)) 0) (fun h1600 hJ1600 k1600 m1600 => ?_)
                          obtain ⟨f1601, ef1601⟩ : ∃ f_, h1600 63 21 = f_ := ⟨_, rfl⟩
                          have bf1601 : B f1601 0 6 := by have z_ := hJ1600.1 63 21; rw [ef1601] at z_; exact z_
                          have zf1601 := congrArg Int32.toInt ef1601
                          exact ev_vret rfl rfl trivial ⟨rfl, rfl, hJ1600, (by have z0_ := congrArg Int32.toInt ef1601; have z1_ := congrArg Int32.toInt (rd_w k1600 (rd_w k1579 ef1426 rfl) rfl); have z_ := w_lits; have zl_ := l_lits; omega)⟩
                  · have b1577 : B f1425 0 0 := R_eqX bf1425 (by decide : B 0 0 0) c1574
                    have z1578 := congrArg Int32.toInt c1574
                    rw [show (0 : Int32).toInt = 0 from by decide] at z1578
                    refine ev_aload_n rfl rfl rfl ?_
                    refine ev_getV (v := f1427) rfl rfl fl_X10_241 rfl rfl rfl ef1427 ?_
                    refine ev_if_ne rfl rfl (fun c1602 => absurd (D_eq b1570 (by decide : B 0 0 0)) c1602) (fun c1602 => ?_)
                    have z1603 := congrArg Int32.toInt c1602
                    rw [show (0 : Int32).toInt = 0 from by decide] at z1603
                    refine ev_iload_n rfl rfl rfl ?_
                    refine ev_if_ne rfl rfl (fun c1604 => ?_) (fun c1604 => ?_)
                    · have b1605 : B w1415 1 1 := R_neL b1417 (by decide : B 0 0 0) c1604 (by decide)
                      have z1606 := w_ne c1604
                      rw [show (0 : Int32).toInt = 0 from by decide] at z1606
                      refine ev_iconst (v := 0) rfl rfl (by decide) ?_
                      refine ev_iconst (v := 2) rfl rfl (by decide) ?_
                      refine ev_V2K hJ1420 rfl rfl rfl lk_X10_230 vt_X10_wants rfl rfl rfl rfl rfl (w_X10_wants_63 L b h1419 hJ1420.1 0 ((by decide : B 0 0 0).mono (by decide) (by decide)) 2 ((by decide : B 2 2 2).mono (by decide) (by decide))) (fun h1609 hJ1609 k1609 m1609 => ?_)
                      obtain ⟨f1610, ef1610⟩ : ∃ f_, h1609 63 21 = f_ := ⟨_, rfl⟩
                      have bf1610 : B f1610 0 6 := by have z_ := hJ1609.1 63 21; rw [ef1610] at z_; exact z_
                      have zf1610 := congrArg Int32.toInt ef1610
                      refine ev_iconst (v := 0) rfl rfl (by decide) ?_
                      refine ev_istore_n rfl rfl rfl rfl ?_
                      dsimp only [List.set]
                      refine ev_goto rfl rfl ?_
                      refine ev_iload_n rfl rfl rfl ?_
                      refine ev_if_eq rfl rfl (fun c1611 => ?_) (fun c1611 => absurd (D_eq (by decide : B 0 0 0) (by decide : B 0 0 0)) c1611)
                      have z1612 := congrArg Int32.toInt c1611
                      rw [show (0 : Int32).toInt = 0 from by decide] at z1612
                      refine ev_aload_n rfl rfl rfl ?_
                      refine ev_getV (v := f1610) rfl rfl fl_X10_191 rfl rfl rfl ef1610 ?_
                      refine ev_if_ne rfl rfl (fun c1613 => ?_) (fun c1613 => ?_)
                      · have b1614 : B f1610 1 6 := R_neL bf1610 (by decide : B 0 0 0) c1613 (by decide)
                        have z1615 := w_ne c1613
                        rw [show (0 : Int32).toInt = 0 from by decide] at z1615
                        exact ev_vret rfl rfl trivial ⟨rfl, rfl, hJ1609, (by have z0_ := congrArg Int32.toInt ef1610; have z1_ := congrArg Int32.toInt (rd_w k1609 ef1426 rfl); have z_ := w_lits; have zl_ := l_lits; omega)⟩
                      · have b1616 : B f1610 0 0 := R_eqX bf1610 (by decide : B 0 0 0) c1613
                        have z1617 := congrArg Int32.toInt c1613
                        rw [show (0 : Int32).toInt = 0 from by decide] at z1617
                        refine ev_aload_n rfl rfl rfl ?_
                        refine ev_getW (l := (-2147483648)) (u := 2147483647) hJ1609.1 rfl rfl rfl fl_X10_237 rfl rfl rfl (fun v1618 b1618 e1618 => ?_)
                        refine ev_if_ne rfl rfl (fun c1619 => ?_) (fun c1619 => ?_)
                        · have z1620 := w_ne c1619
                          rw [show (0 : Int32).toInt = 0 from by decide] at z1620
                          refine ev_aload_n rfl rfl rfl ?_
                          refine ev_bipush (v := 6) rfl rfl (by decide) ?_
                          refine ev_iconst (v := 0) rfl rfl (by decide) ?_
                          refine ev_V2K hJ1609 rfl rfl rfl lk_X10_200 vt_X10_fails rfl rfl rfl rfl rfl (w_X10_fails_63 L b h1609 hJ1609.1 6 ((by decide : B 6 6 6).mono (by decide) (by decide)) 0) (fun h1623 hJ1623 k1623 m1623 => ?_)
                          obtain ⟨f1624, ef1624⟩ : ∃ f_, h1623 63 21 = f_ := ⟨_, rfl⟩
                          have bf1624 : B f1624 0 6 := by have z_ := hJ1623.1 63 21; rw [ef1624] at z_; exact z_
                          have zf1624 := congrArg Int32.toInt ef1624
                          exact ev_vret rfl rfl trivial ⟨rfl, rfl, hJ1623, (by have z0_ := congrArg Int32.toInt ef1624; have z1_ := congrArg Int32.toInt (rd_w k1623 (rd_w k1609 ef1426 rfl) rfl); have z_ := w_lits; have zl_ := l_lits; omega)⟩
                        · have b1621 : B v1618 0 0 := R_eqX (B.any v1618) (by decide : B 0 0 0) c1619
                          have z1622 := congrArg Int32.toInt c1619
                          rw [show (0 : Int32).toInt = 0 from by decide] at z1622
                          refine ev_aload_n rfl rfl rfl ?_
                          refine ev_getV (v := f1426) rfl rfl fl_X10_234 rfl rfl rfl (rd_w k1609 ef1426 rfl) ?_
                          refine ev_bipush (v := 24) rfl rfl (by decide) ?_
                          refine ev_icmp_le rfl rfl (fun c1625 => ?_) (fun c1625 => ?_)
                          · have b1626 : B f1426 0 24 := R_leX bf1426 (by decide : B 24 24 24) c1625 (by decide)
                            have z1627 := w_le c1625
                            rw [show (24 : Int32).toInt = 24 from by decide] at z1627
                            exact ev_vret rfl rfl trivial ⟨rfl, rfl, hJ1609, (by have z0_ := congrArg Int32.toInt ef1610; have z1_ := congrArg Int32.toInt (rd_w k1609 ef1426 rfl); have z_ := w_lits; have zl_ := l_lits; omega)⟩
                          · have b1628 : B f1426 25 60 := R_ltY (by decide : B 24 24 24) bf1426 (Int32.not_le.mp c1625) (by decide)
                            have z1629 := w_lt (Int32.not_le.mp c1625)
                            rw [show (24 : Int32).toInt = 24 from by decide] at z1629
                            refine ev_aload_n rfl rfl rfl ?_
                            refine ev_bipush (v := 6) rfl rfl (by decide) ?_
                            refine ev_iconst (v := 0) rfl rfl (by decide) ?_
                            refine ev_V2K hJ1609 rfl rfl rfl lk_X10_200 vt_X10_fails rfl rfl rfl rfl rfl (w_X10_fails_63 L b h1609 hJ1609.1 6 ((by decide : B 6 6 6).mono (by decide) (by decide)) 0) (fun h1630 hJ1630 k1630 m1630 => ?_)
                            obtain ⟨f1631, ef1631⟩ : ∃ f_, h1630 63 21 = f_ := ⟨_, rfl⟩
                            have bf1631 : B f1631 0 6 := by have z_ := hJ1630.1 63 21; rw [ef1631] at z_; exact z_
                            have zf1631 := congrArg Int32.toInt ef1631
                            exact ev_vret rfl rfl trivial ⟨rfl, rfl, hJ1630, (by have z0_ := congrArg Int32.toInt ef1631; have z1_ := congrArg Int32.toInt (rd_w k1630 (rd_w k1609 ef1426 rfl) rfl); have z_ := w_lits; have zl_ := l_lits; omega)⟩
                    · have b1607 : B w1415 0 0 := R_eqX b1417 (by decide : B 0 0 0) c1604
                      have z1608 := congrArg Int32.toInt c1604
                      rw [show (0 : Int32).toInt = 0 from by decide] at z1608
                      refine ev_iconst (v := 1) rfl rfl (by decide) ?_
                      refine ev_goto rfl rfl ?_
                      refine ev_iconst (v := 2) rfl rfl (by decide) ?_
                      refine ev_V2K hJ1420 rfl rfl rfl lk_X10_230 vt_X10_wants rfl rfl rfl rfl rfl (w_X10_wants_63 L b h1419 hJ1420.1 1 ((by decide : B 1 1 1).mono (by decide) (by decide)) 2 ((by decide : B 2 2 2).mono (by decide) (by decide))) (fun h1632 hJ1632 k1632 m1632 => ?_)
                      obtain ⟨f1633, ef1633⟩ : ∃ f_, h1632 63 21 = f_ := ⟨_, rfl⟩
                      have bf1633 : B f1633 0 6 := by have z_ := hJ1632.1 63 21; rw [ef1633] at z_; exact z_
                      have zf1633 := congrArg Int32.toInt ef1633
                      refine ev_iconst (v := 0) rfl rfl (by decide) ?_
                      refine ev_istore_n rfl rfl rfl rfl ?_
                      dsimp only [List.set]
                      refine ev_goto rfl rfl ?_
                      refine ev_iload_n rfl rfl rfl ?_
                      refine ev_if_eq rfl rfl (fun c1634 => ?_) (fun c1634 => absurd (D_eq (by decide : B 0 0 0) (by decide : B 0 0 0)) c1634)
                      have z1635 := congrArg Int32.toInt c1634
                      rw [show (0 : Int32).toInt = 0 from by decide] at z1635
                      refine ev_aload_n rfl rfl rfl ?_
                      refine ev_getV (v := f1633) rfl rfl fl_X10_191 rfl rfl rfl ef1633 ?_
                      refine ev_if_ne rfl rfl (fun c1636 => ?_) (fun c1636 => ?_)
                      · have b1637 : B f1633 1 6 := R_neL bf1633 (by decide : B 0 0 0) c1636 (by decide)
                        have z1638 := w_ne c1636
                        rw [show (0 : Int32).toInt = 0 from by decide] at z1638
                        exact ev_vret rfl rfl trivial ⟨rfl, rfl, hJ1632, (by have z0_ := congrArg Int32.toInt ef1633; have z1_ := congrArg Int32.toInt (rd_w k1632 ef1426 rfl); have z_ := w_lits; have zl_ := l_lits; omega)⟩
                      · have b1639 : B f1633 0 0 := R_eqX bf1633 (by decide : B 0 0 0) c1636
                        have z1640 := congrArg Int32.toInt c1636
                        rw [show (0 : Int32).toInt = 0 from by decide] at z1640
                        refine ev_aload_n rfl rfl rfl ?_
                        refine ev_getW (l := (-2147483648)) (u := 2147483647) hJ1632.1 rfl rfl rfl fl_X10_237 rfl rfl rfl (fun v1641 b1641 e1641 => ?_)
                        refine ev_if_ne rfl rfl (fun c1642 => ?_) (fun c1642 => ?_)
                        · have z1643 := w_ne c1642
                          rw [show (0 : Int32).toInt = 0 from by decide] at z1643
                          refine ev_aload_n rfl rfl rfl ?_
                          refine ev_bipush (v := 6) rfl rfl (by decide) ?_
                          refine ev_iconst (v := 0) rfl rfl (by decide) ?_
                          refine ev_V2K hJ1632 rfl rfl rfl lk_X10_200 vt_X10_fails rfl rfl rfl rfl rfl (w_X10_fails_63 L b h1632 hJ1632.1 6 ((by decide : B 6 6 6).mono (by decide) (by decide)) 0) (fun h1646 hJ1646 k1646 m1646 => ?_)
                          obtain ⟨f1647, ef1647⟩ : ∃ f_, h1646 63 21 = f_ := ⟨_, rfl⟩
                          have bf1647 : B f1647 0 6 := by have z_ := hJ1646.1 63 21; rw [ef1647] at z_; exact z_
                          have zf1647 := congrArg Int32.toInt ef1647
                          exact ev_vret rfl rfl trivial ⟨rfl, rfl, hJ1646, (by have z0_ := congrArg Int32.toInt ef1647; have z1_ := congrArg Int32.toInt (rd_w k1646 (rd_w k1632 ef1426 rfl) rfl); have z_ := w_lits; have zl_ := l_lits; omega)⟩
                        · have b1644 : B v1641 0 0 := R_eqX (B.any v1641) (by decide : B 0 0 0) c1642
                          have z1645 := congrArg Int32.toInt c1642
                          rw [show (0 : Int32).toInt = 0 from by decide] at z1645
                          refine ev_aload_n rfl rfl rfl ?_
                          refine ev_getV (v := f1426) rfl rfl fl_X10_234 rfl rfl rfl (rd_w k1632 ef1426 rfl) ?_
                          refine ev_bipush (v := 24) rfl rfl (by decide) ?_
                          refine ev_icmp_le rfl rfl (fun c1648 => ?_) (fun c1648 => ?_)
                          · have b1649 : B f1426 0 24 := R_leX bf1426 (by decide : B 24 24 24) c1648 (by decide)
                            have z1650 := w_le c1648
                            rw [show (24 : Int32).toInt = 24 from by decide] at z1650
                            exact ev_vret rfl rfl trivial ⟨rfl, rfl, hJ1632, (by have z0_ := congrArg Int32.toInt ef1633; have z1_ := congrArg Int32.toInt (rd_w k1632 ef1426 rfl); have z_ := w_lits; have zl_ := l_lits; omega)⟩
                          · have b1651 : B f1426 25 60 := R_ltY (by decide : B 24 24 24) bf1426 (Int32.not_le.mp c1648) (by decide)
                            have z1652 := w_lt (Int32.not_le.mp c1648)
                            rw [show (24 : Int32).toInt = 24 from by decide] at z1652
                            refine ev_aload_n rfl rfl rfl ?_
                            refine ev_bipush (v := 6) rfl rfl (by decide) ?_
                            refine ev_iconst (v := 0) rfl rfl (by decide) ?_
                            refine ev_V2K hJ1632 rfl rfl rfl lk_X10_200 vt_X10_fails rfl rfl rfl rfl rfl (w_X10_fails_63 L b h1632 hJ1632.1 6 ((by decide : B 6 6 6).mono (by decide) (by decide)) 0) (fun h1653 hJ1653 k1653 m1653 => ?_)
                            obtain ⟨f1654, ef1654⟩ : ∃ f_, h1653 63 21 = f_ := ⟨_, rfl⟩
                            have bf1654 : B f1654 0 6 := by have z_ := hJ1653.1 63 21; rw [ef1654] at z_; exact z_
                            have zf1654 := congrArg Int32.toInt ef1654
                            exact ev_vret rfl rfl trivial ⟨rfl, rfl, hJ1653, (by have z0_ := congrArg Int32.toInt ef1654; have z1_ := congrArg Int32.toInt (rd_w k1653 (rd_w k1632 ef1426 rfl) rfl); have z_ := w_lits; have zl_ := l_lits; omega)⟩
                · have b1572 : B f1427 1 4 := R_ltY (by decide : B 0 0 0) bf1427 (Int32.not_le.mp c1569) (by decide)
                  have z1573 := w_lt (Int32.not_le.mp c1569)
                  rw [show (0 : Int32).toInt = 0 from by decide] at z1573
                  refine ev_iload_n rfl rfl rfl ?_
                  refine ev_if_ne rfl rfl (fun c1655 => ?_) (fun c1655 => ?_)
                  · have b1656 : B w1415 1 1 := R_neL b1417 (by decide : B 0 0 0) c1655 (by decide)
                    have z1657 := w_ne c1655
                    rw [show (0 : Int32).toInt = 0 from by decide] at z1657
                    refine ev_aload_n rfl rfl rfl ?_
                    refine ev_aload_n rfl rfl rfl ?_
                    refine ev_getV (v := f1425) rfl rfl fl_X10_204 rfl rfl rfl ef1425 ?_
                    refine ev_if_ne rfl rfl (fun c1660 => ?_) (fun c1660 => ?_)
                    · have b1661 : B f1425 1 3 := R_neL bf1425 (by decide : B 0 0 0) c1660 (by decide)
                      have z1662 := w_ne c1660
                      rw [show (0 : Int32).toInt = 0 from by decide] at z1662
                      refine ev_iconst (v := 0) rfl rfl (by decide) ?_
                      refine ev_iconst (v := 2) rfl rfl (by decide) ?_
                      refine ev_V2K hJ1420 rfl rfl rfl lk_X10_230 vt_X10_wants rfl rfl rfl rfl rfl (w_X10_wants_63 L b h1419 hJ1420.1 0 ((by decide : B 0 0 0).mono (by decide) (by decide)) 2 ((by decide : B 2 2 2).mono (by decide) (by decide))) (fun h1665 hJ1665 k1665 m1665 => ?_)
                      obtain ⟨f1666, ef1666⟩ : ∃ f_, h1665 63 21 = f_ := ⟨_, rfl⟩
                      have bf1666 : B f1666 0 6 := by have z_ := hJ1665.1 63 21; rw [ef1666] at z_; exact z_
                      have zf1666 := congrArg Int32.toInt ef1666
                      refine ev_iconst (v := 0) rfl rfl (by decide) ?_
                      refine ev_istore_n rfl rfl rfl rfl ?_
                      dsimp only [List.set]
                      refine ev_goto rfl rfl ?_
                      refine ev_iload_n rfl rfl rfl ?_
                      refine ev_if_eq rfl rfl (fun c1667 => ?_) (fun c1667 => absurd (D_eq (by decide : B 0 0 0) (by decide : B 0 0 0)) c1667)
                      have z1668 := congrArg Int32.toInt c1667
                      rw [show (0 : Int32).toInt = 0 from by decide] at z1668
                      refine ev_aload_n rfl rfl rfl ?_
                      refine ev_getV (v := f1666) rfl rfl fl_X10_191 rfl rfl rfl ef1666 ?_
                      refine ev_if_ne rfl rfl (fun c1669 => ?_) (fun c1669 => ?_)
                      · have b1670 : B f1666 1 6 := R_neL bf1666 (by decide : B 0 0 0) c1669 (by decide)
                        have z1671 := w_ne c1669
                        rw [show (0 : Int32).toInt = 0 from by decide] at z1671
                        exact ev_vret rfl rfl trivial ⟨rfl, rfl, hJ1665, (by have z0_ := congrArg Int32.toInt ef1666; have z1_ := congrArg Int32.toInt (rd_w k1665 ef1426 rfl); have z_ := w_lits; have zl_ := l_lits; omega)⟩
                      · have b1672 : B f1666 0 0 := R_eqX bf1666 (by decide : B 0 0 0) c1669
                        have z1673 := congrArg Int32.toInt c1669
                        rw [show (0 : Int32).toInt = 0 from by decide] at z1673
                        refine ev_aload_n rfl rfl rfl ?_
                        refine ev_getW (l := (-2147483648)) (u := 2147483647) hJ1665.1 rfl rfl rfl fl_X10_237 rfl rfl rfl (fun v1674 b1674 e1674 => ?_)
                        refine ev_if_ne rfl rfl (fun c1675 => ?_) (fun c1675 => ?_)
                        · have z1676 := w_ne c1675
                          rw [show (0 : Int32).toInt = 0 from by decide] at z1676
                          refine ev_aload_n rfl rfl rfl ?_
                          refine ev_bipush (v := 6) rfl rfl (by decide) ?_
                          refine ev_iconst (v := 0) rfl rfl (by decide) ?_
                          refine ev_V2K hJ1665 rfl rfl rfl lk_X10_200 vt_X10_fails rfl rfl rfl rfl rfl (w_X10_fails_63 L b h1665 hJ1665.1 6 ((by decide : B 6 6 6).mono (by decide) (by decide)) 0) (fun h1679 hJ1679 k1679 m1679 => ?_)
                          obtain ⟨f1680, ef1680⟩ : ∃ f_, h1679 63 21 = f_ := ⟨_, rfl⟩
                          have bf1680 : B f1680 0 6 := by have z_ := hJ1679.1 63 21; rw [ef1680] at z_; exact z_
                          have zf1680 := congrArg Int32.toInt ef1680
                          exact ev_vret rfl rfl trivial ⟨rfl, rfl, hJ1679, (by have z0_ := congrArg Int32.toInt ef1680; have z1_ := congrArg Int32.toInt (rd_w k1679 (rd_w k1665 ef1426 rfl) rfl); have z_ := w_lits; have zl_ := l_lits; omega)⟩
                        · have b1677 : B v1674 0 0 := R_eqX (B.any v1674) (by decide : B 0 0 0) c1675
                          have z1678 := congrArg Int32.toInt c1675
                          rw [show (0 : Int32).toInt = 0 from by decide] at z1678
                          refine ev_aload_n rfl rfl rfl ?_
                          refine ev_getV (v := f1426) rfl rfl fl_X10_234 rfl rfl rfl (rd_w k1665 ef1426 rfl) ?_
                          refine ev_bipush (v := 24) rfl rfl (by decide) ?_
                          refine ev_icmp_le rfl rfl (fun c1681 => ?_) (fun c1681 => ?_)
                          · have b1682 : B f1426 0 24 := R_leX bf1426 (by decide : B 24 24 24) c1681 (by decide)
                            have z1683 := w_le c1681
                            rw [show (24 : Int32).toInt = 24 from by decide] at z1683
                            exact ev_vret rfl rfl trivial ⟨rfl, rfl, hJ1665, (by have z0_ := congrArg Int32.toInt ef1666; have z1_ := congrArg Int32.toInt (rd_w k1665 ef1426 rfl); have z_ := w_lits; have zl_ := l_lits; omega)⟩
                          · have b1684 : B f1426 25 60 := R_ltY (by decide : B 24 24 24) bf1426 (Int32.not_le.mp c1681) (by decide)
                            have z1685 := w_lt (Int32.not_le.mp c1681)
                            rw [show (24 : Int32).toInt = 24 from by decide] at z1685
                            refine ev_aload_n rfl rfl rfl ?_
                            refine ev_bipush (v := 6) rfl rfl (by decide) ?_
                            refine ev_iconst (v := 0) rfl rfl (by decide) ?_
                            refine ev_V2K hJ1665 rfl rfl rfl lk_X10_200 vt_X10_fails rfl rfl rfl rfl rfl (w_X10_fails_63 L b h1665 hJ1665.1 6 ((by decide : B 6 6 6).mono (by decide) (by decide)) 0) (fun h1686 hJ1686 k1686 m1686 => ?_)
                            obtain ⟨f1687, ef1687⟩ : ∃ f_, h1686 63 21 = f_ := ⟨_, rfl⟩
                            have bf1687 : B f1687 0 6 := by have z_ := hJ1686.1 63 21; rw [ef1687] at z_; exact z_
                            have zf1687 := congrArg Int32.toInt ef1687
                            exact ev_vret rfl rfl trivial ⟨rfl, rfl, hJ1686, (by have z0_ := congrArg Int32.toInt ef1687; have z1_ := congrArg Int32.toInt (rd_w k1686 (rd_w k1665 ef1426 rfl) rfl); have z_ := w_lits; have zl_ := l_lits; omega)⟩
                    · have b1663 : B f1425 0 0 := R_eqX bf1425 (by decide : B 0 0 0) c1660
                      have z1664 := congrArg Int32.toInt c1660
                      rw [show (0 : Int32).toInt = 0 from by decide] at z1664
                      refine ev_aload_n rfl rfl rfl ?_
                      refine ev_getV (v := f1427) rfl rfl fl_X10_241 rfl rfl rfl ef1427 ?_
                      refine ev_if_ne rfl rfl (fun c1688 => ?_) (fun c1688 => absurd c1688 (D_ne b1572 (by decide : B 0 0 0) (by decide)))
                      have z1689 := w_ne c1688
                      rw [show (0 : Int32).toInt = 0 from by decide] at z1689
                      refine ev_iconst (v := 0) rfl rfl (by decide) ?_
                      refine ev_iconst (v := 2) rfl rfl (by decide) ?_
                      refine ev_V2K hJ1420 rfl rfl rfl lk_X10_230 vt_X10_wants rfl rfl rfl rfl rfl (w_X10_wants_63 L b h1419 hJ1420.1 0 ((by decide : B 0 0 0).mono (by decide) (by decide)) 2 ((by decide : B 2 2 2).mono (by decide) (by decide))) (fun h1690 hJ1690 k1690 m1690 => ?_)
                      obtain ⟨f1691, ef1691⟩ : ∃ f_, h1690 63 21 = f_ := ⟨_, rfl⟩
                      have bf1691 : B f1691 0 6 := by have z_ := hJ1690.1 63 21; rw [ef1691] at z_; exact z_
                      have zf1691 := congrArg Int32.toInt ef1691
                      refine ev_iconst (v := 0) rfl rfl (by decide) ?_
                      refine ev_istore_n rfl rfl rfl rfl ?_
                      dsimp only [List.set]
                      refine ev_goto rfl rfl ?_
                      refine ev_iload_n rfl rfl rfl ?_
                      refine ev_if_eq rfl rfl (fun c1692 => ?_) (fun c1692 => absurd (D_eq (by decide : B 0 0 0) (by decide : B 0 0 0)) c1692)
                      have z1693 := congrArg Int32.toInt c1692
                      rw [show (0 : Int32).toInt = 0 from by decide] at z1693
                      refine ev_aload_n rfl rfl rfl ?_
                      refine ev_getV (v := f1691) rfl rfl fl_X10_191 rfl rfl rfl ef1691 ?_
                      refine ev_if_ne rfl rfl (fun c1694 => ?_) (fun c1694 => ?_)
                      · have b1695 : B f1691 1 6 := R_neL bf1691 (by decide : B 0 0 0) c1694 (by decide)
                        have z1696 := w_ne c1694
                        rw [show (0 : Int32).toInt = 0 from by decide] at z1696
                        exact ev_vret rfl rfl trivial ⟨rfl, rfl, hJ1690, (by have z0_ := congrArg Int32.toInt ef1691; have z1_ := congrArg Int32.toInt (rd_w k1690 ef1426 rfl); have z_ := w_lits; have zl_ := l_lits; omega)⟩
                      · have b1697 : B f1691 0 0 := R_eqX bf1691 (by decide : B 0 0 0) c1694
                        have z1698 := congrArg Int32.toInt c1694
                        rw [show (0 : Int32).toInt = 0 from by decide] at z1698
                        refine ev_aload_n rfl rfl rfl ?_
                        refine ev_getW (l := (-2147483648)) (u := 2147483647) hJ1690.1 rfl rfl rfl fl_X10_237 rfl rfl rfl (fun v1699 b1699 e1699 => ?_)
                        refine ev_if_ne rfl rfl (fun c1700 => ?_) (fun c1700 => ?_)
                        · have z1701 := w_ne c1700
                          rw [show (0 : Int32).toInt = 0 from by decide] at z1701
                          refine ev_aload_n rfl rfl rfl ?_
                          refine ev_bipush (v := 6) rfl rfl (by decide) ?_
                          refine ev_iconst (v := 0) rfl rfl (by decide) ?_
                          refine ev_V2K hJ1690 rfl rfl rfl lk_X10_200 vt_X10_fails rfl rfl rfl rfl rfl (w_X10_fails_63 L b h1690 hJ1690.1 6 ((by decide : B 6 6 6).mono (by decide) (by decide)) 0) (fun h1704 hJ1704 k1704 m1704 => ?_)
                          obtain ⟨f1705, ef1705⟩ : ∃ f_, h1704 63 21 = f_ := ⟨_, rfl⟩
                          have bf1705 : B f1705 0 6 := by have z_ := hJ1704.1 63 21; rw [ef1705] at z_; exact z_
                          have zf1705 := congrArg Int32.toInt ef1705
                          exact ev_vret rfl rfl trivial ⟨rfl, rfl, hJ1704, (by have z0_ := congrArg Int32.toInt ef1705; have z1_ := congrArg Int32.toInt (rd_w k1704 (rd_w k1690 ef1426 rfl) rfl); have z_ := w_lits; have zl_ := l_lits; omega)⟩
                        · have b1702 : B v1699 0 0 := R_eqX (B.any v1699) (by decide : B 0 0 0) c1700
                          have z1703 := congrArg Int32.toInt c1700
                          rw [show (0 : Int32).toInt = 0 from by decide] at z1703
                          refine ev_aload_n rfl rfl rfl ?_
                          refine ev_getV (v := f1426) rfl rfl fl_X10_234 rfl rfl rfl (rd_w k1690 ef1426 rfl) ?_
                          refine ev_bipush (v := 24) rfl rfl (by decide) ?_
                          refine ev_icmp_le rfl rfl (fun c1706 => ?_) (fun c1706 => ?_)
                          · have b1707 : B f1426 0 24 := R_leX bf1426 (by decide : B 24 24 24) c1706 (by decide)
                            have z1708 := w_le c1706
                            rw [show (24 : Int32).toInt = 24 from by decide] at z1708
                            exact ev_vret rfl rfl trivial ⟨rfl, rfl, hJ1690, (by have z0_ := congrArg Int32.toInt ef1691; have z1_ := congrArg Int32.toInt (rd_w k1690 ef1426 rfl); have z_ := w_lits; have zl_ := l_lits; omega)⟩
                          · have b1709 : B f1426 25 60 := R_ltY (by decide : B 24 24 24) bf1426 (Int32.not_le.mp c1706) (by decide)
                            have z1710 := w_lt (Int32.not_le.mp c1706)
                            rw [show (24 : Int32).toInt = 24 from by decide] at z1710
                            refine ev_aload_n rfl rfl rfl ?_
                            refine ev_bipush (v := 6) rfl rfl (by decide) ?_
                            refine ev_iconst (v := 0) rfl rfl (by decide) ?_
                            refine ev_V2K hJ1690 rfl rfl rfl lk_X10_200 vt_X10_fails rfl rfl rfl rfl rfl (w_X10_fails_63 L b h1690 hJ1690.1 6 ((by decide : B 6 6 6).mono (by decide) (by decide)) 0) (fun h1711 hJ1711 k1711 m1711 => ?_)
                            obtain ⟨f1712, ef1712⟩ : ∃ f_, h1711 63 21 = f_ := ⟨_, rfl⟩
                            have bf1712 : B f1712 0 6 := by have z_ := hJ1711.1 63 21; rw [ef1712] at z_; exact z_
                            have zf1712 := congrArg Int32.toInt ef1712
                            exact ev_vret rfl rfl trivial ⟨rfl, rfl, hJ1711, (by have z0_ := congrArg Int32.toInt ef1712; have z1_ := congrArg Int32.toInt (rd_w k1711 (rd_w k1690 ef1426 rfl) rfl); have z_ := w_lits; have zl_ := l_lits; omega)⟩
                  · have b1658 : B w1415 0 0 := R_eqX b1417 (by decide : B 0 0 0) c1655
                    have z1659 := congrArg Int32.toInt c1655
                    rw [show (0 : Int32).toInt = 0 from by decide] at z1659
                    exact (w_rt208 L b h h1419 hJ1420 _ w1415 (b1658.mono (by decide) (by decide)) w1416 b1418 (by have z0_ := congrArg Int32.toInt ef1426; have z1_ := congrArg Int32.toInt ef1427; have z2_ := congrArg Int32.toInt ef1428; have z_ := w_lits; have zl_ := l_lits; omega) (by have z0_ := congrArg Int32.toInt ef1426; have z1_ := congrArg Int32.toInt ef1427; have z2_ := congrArg Int32.toInt ef1428; have z3_ := congrArg Int32.toInt ef1429; have z_ := w_lits; have zl_ := l_lits; omega) (by have z0_ := congrArg Int32.toInt ef1426; have z1_ := congrArg Int32.toInt ef1427; have z2_ := congrArg Int32.toInt ef1429; have z3_ := congrArg Int32.toInt ef1430; have z_ := w_lits; have zl_ := l_lits; omega) (by have z0_ := congrArg Int32.toInt ef1426; have z1_ := congrArg Int32.toInt ef1427; have z2_ := congrArg Int32.toInt ef1430; have z3_ := congrArg Int32.toInt ef1431; have z_ := w_lits; have zl_ := l_lits; omega) (by have z0_ := congrArg Int32.toInt z1421; have z1_ := congrArg Int32.toInt ef1422; have z_ := w_lits; have zl_ := l_lits; omega) (by have z0_ := congrArg Int32.toInt ef1423; have z1_ := congrArg Int32.toInt ef1424; have z2_ := congrArg Int32.toInt ef1425; have z_ := w_lits; have zl_ := l_lits; omega) (by have z0_ := congrArg Int32.toInt ef1423; have z_ := w_lits; have zl_ := l_lits; omega) (by have z0_ := congrArg Int32.toInt ef1425; have z_ := w_lits; have zl_ := l_lits; omega) (B.at ef1427 b1572) (fun m1_ h_ b1_ j_ r0_ r1_ r2_ r3_ r4_ r5_ rd_ => ih19 m1_ w1416 h_ b1_ b1418 j_ ((j_.2 63 16 rfl).trans ef1) r0_ r1_ r2_ r3_ r4_ r5_ (mM_dec hm19 (by have z0_ := congrArg Int32.toInt z1421; have z1_ := congrArg Int32.toInt ef1422; have z2_ := congrArg Int32.toInt ef1423; have z3_ := congrArg Int32.toInt ef1424; have z4_ := congrArg Int32.toInt ef1425; have z5_ := congrArg Int32.toInt ef1426; have z6_ := congrArg Int32.toInt ef1427; have z7_ := congrArg Int32.toInt ef1428; have z8_ := congrArg Int32.toInt ef1429; have z9_ := congrArg Int32.toInt ef1430; have z10_ := congrArg Int32.toInt ef1431; have z_ := w_lits; have zl_ := l_lits; omega) (by have z0_ := congrArg Int32.toInt z1421; have z1_ := congrArg Int32.toInt ef1422; have z2_ := congrArg Int32.toInt ef1423; have z3_ := congrArg Int32.toInt ef1424; have z4_ := congrArg Int32.toInt ef1425; have z5_ := congrArg Int32.toInt ef1426; have z6_ := congrArg Int32.toInt ef1427; have z7_ := congrArg Int32.toInt ef1428; have z8_ := congrArg Int32.toInt ef1429; have z9_ := congrArg Int32.toInt ef1430; have z10_ := congrArg Int32.toInt ef1431; have z_ := w_lits; have zl_ := l_lits; omega) (by have z0_ := congrArg Int32.toInt z1421; have z1_ := congrArg Int32.toInt ef1422; have z2_ := congrArg Int32.toInt ef1423; have z3_ := congrArg Int32.toInt ef1424; have z4_ := congrArg Int32.toInt ef1425; have z5_ := congrArg Int32.toInt ef1426; have z6_ := congrArg Int32.toInt ef1427; have z7_ := congrArg Int32.toInt ef1428; have z8_ := congrArg Int32.toInt ef1429; have z9_ := congrArg Int32.toInt ef1430; have z10_ := congrArg Int32.toInt ef1431; have z11_ := rd_; have z_ := w_lits; have zl_ := l_lits; omega))))
            · have b1454 : B f1425 2 2 := R_eqX bf1425 (by decide : B 2 2 2) c1452
              have z1455 := congrArg Int32.toInt c1452
              rw [show (2 : Int32).toInt = 2 from by decide] at z1455
              exact (w_rt84 L b h h1419 hJ1420 _ w1415 b1417 w1416 b1418 (by have z0_ := congrArg Int32.toInt ef1426; have z1_ := congrArg Int32.toInt ef1427; have z2_ := congrArg Int32.toInt ef1428; have z_ := w_lits; have zl_ := l_lits; omega) (by have z0_ := congrArg Int32.toInt ef1426; have z1_ := congrArg Int32.toInt ef1427; have z2_ := congrArg Int32.toInt ef1428; have z3_ := congrArg Int32.toInt ef1429; have z_ := w_lits; have zl_ := l_lits; omega) (by have z0_ := congrArg Int32.toInt ef1426; have z1_ := congrArg Int32.toInt ef1427; have z2_ := congrArg Int32.toInt ef1429; have z3_ := congrArg Int32.toInt ef1430; have z_ := w_lits; have zl_ := l_lits; omega) (by have z0_ := congrArg Int32.toInt ef1426; have z1_ := congrArg Int32.toInt ef1427; have z2_ := congrArg Int32.toInt ef1430; have z3_ := congrArg Int32.toInt ef1431; have z_ := w_lits; have zl_ := l_lits; omega) (by have z0_ := congrArg Int32.toInt z1421; have z1_ := congrArg Int32.toInt ef1422; have z_ := w_lits; have zl_ := l_lits; omega) (by have z0_ := congrArg Int32.toInt ef1423; have z1_ := congrArg Int32.toInt ef1424; have z2_ := congrArg Int32.toInt ef1425; have z_ := w_lits; have zl_ := l_lits; omega) (by have z0_ := congrArg Int32.toInt ef1423; have z_ := w_lits; have zl_ := l_lits; omega) (by have z0_ := congrArg Int32.toInt ef1425; have z_ := w_lits; have zl_ := l_lits; omega) (fun m1_ h_ b1_ j_ r0_ r1_ r2_ r3_ r4_ r5_ rd_ => ih19 m1_ w1416 h_ b1_ b1418 j_ ((j_.2 63 16 rfl).trans ef1) r0_ r1_ r2_ r3_ r4_ r5_ (mM_dec hm19 (by have z0_ := congrArg Int32.toInt z1421; have z1_ := congrArg Int32.toInt ef1422; have z2_ := congrArg Int32.toInt ef1423; have z3_ := congrArg Int32.toInt ef1424; have z4_ := congrArg Int32.toInt ef1425; have z5_ := congrArg Int32.toInt ef1426; have z6_ := congrArg Int32.toInt ef1427; have z7_ := congrArg Int32.toInt ef1428; have z8_ := congrArg Int32.toInt ef1429; have z9_ := congrArg Int32.toInt ef1430; have z10_ := congrArg Int32.toInt ef1431; have z_ := w_lits; have zl_ := l_lits; omega) (by have z0_ := congrArg Int32.toInt z1421; have z1_ := congrArg Int32.toInt ef1422; have z2_ := congrArg Int32.toInt ef1423; have z3_ := congrArg Int32.toInt ef1424; have z4_ := congrArg Int32.toInt ef1425; have z5_ := congrArg Int32.toInt ef1426; have z6_ := congrArg Int32.toInt ef1427; have z7_ := congrArg Int32.toInt ef1428; have z8_ := congrArg Int32.toInt ef1429; have z9_ := congrArg Int32.toInt ef1430; have z10_ := congrArg Int32.toInt ef1431; have z_ := w_lits; have zl_ := l_lits; omega) (by have z0_ := congrArg Int32.toInt z1421; have z1_ := congrArg Int32.toInt ef1422; have z2_ := congrArg Int32.toInt ef1423; have z3_ := congrArg Int32.toInt ef1424; have z4_ := congrArg Int32.toInt ef1425; have z5_ := congrArg Int32.toInt ef1426; have z6_ := congrArg Int32.toInt ef1427; have z7_ := congrArg Int32.toInt ef1428; have z8_ := congrArg Int32.toInt ef1429; have z9_ := congrArg Int32.toInt ef1430; have z10_ := congrArg Int32.toInt ef1431; have z11_ := rd_; have z_ := w_lits; have zl_ := l_lits; omega))))
          · have b1450 : B r1446 1 1 := R_neL b1446 (by decide : B 0 0 0) c1447 (by decide)
            have z1451 := w_ne c1447
            rw [show (0 : Int32).toInt = 0 from by decide] at z1451
            exact (w_rt47 L b h h1419 hJ1420 _ w1415 b1417 w1416 b1418 (by have z0_ := congrArg Int32.toInt ef1426; have z1_ := congrArg Int32.toInt ef1427; have z2_ := congrArg Int32.toInt ef1428; have z_ := w_lits; have zl_ := l_lits; omega) (by have z0_ := congrArg Int32.toInt ef1426; have z1_ := congrArg Int32.toInt ef1427; have z2_ := congrArg Int32.toInt ef1428; have z3_ := congrArg Int32.toInt ef1429; have z_ := w_lits; have zl_ := l_lits; omega) (by have z0_ := congrArg Int32.toInt ef1426; have z1_ := congrArg Int32.toInt ef1427; have z2_ := congrArg Int32.toInt ef1429; have z3_ := congrArg Int32.toInt ef1430; have z_ := w_lits; have zl_ := l_lits; omega) (by have z0_ := congrArg Int32.toInt ef1426; have z1_ := congrArg Int32.toInt ef1427; have z2_ := congrArg Int32.toInt ef1430; have z3_ := congrArg Int32.toInt ef1431; have z_ := w_lits; have zl_ := l_lits; omega) (by have z0_ := congrArg Int32.toInt z1421; have z1_ := congrArg Int32.toInt ef1422; have z_ := w_lits; have zl_ := l_lits; omega) (by have z0_ := congrArg Int32.toInt ef1423; have z1_ := congrArg Int32.toInt ef1424; have z2_ := congrArg Int32.toInt ef1425; have z_ := w_lits; have zl_ := l_lits; omega) (by have z0_ := congrArg Int32.toInt ef1423; have z_ := w_lits; have zl_ := l_lits; omega) (by have z0_ := congrArg Int32.toInt ef1425; have z_ := w_lits; have zl_ := l_lits; omega) (fun m1_ h_ b1_ j_ r0_ r1_ r2_ r3_ r4_ r5_ rd_ => ih19 m1_ w1416 h_ b1_ b1418 j_ ((j_.2 63 16 rfl).trans ef1) r0_ r1_ r2_ r3_ r4_ r5_ (mM_dec hm19 (by have z0_ := congrArg Int32.toInt z1421; have z1_ := congrArg Int32.toInt ef1422; have z2_ := congrArg Int32.toInt ef1423; have z3_ := congrArg Int32.toInt ef1424; have z4_ := congrArg Int32.toInt ef1425; have z5_ := congrArg Int32.toInt ef1426; have z6_ := congrArg Int32.toInt ef1427; have z7_ := congrArg Int32.toInt ef1428; have z8_ := congrArg Int32.toInt ef1429; have z9_ := congrArg Int32.toInt ef1430; have z10_ := congrArg Int32.toInt ef1431; have z_ := w_lits; have zl_ := l_lits; omega) (by have z0_ := congrArg Int32.toInt z1421; have z1_ := congrArg Int32.toInt ef1422; have z2_ := congrArg Int32.toInt ef1423; have z3_ := congrArg Int32.toInt ef1424; have z4_ := congrArg Int32.toInt ef1425; have z5_ := congrArg Int32.toInt ef1426; have z6_ := congrArg Int32.toInt ef1427; have z7_ := congrArg Int32.toInt ef1428; have z8_ := congrArg Int32.toInt ef1429; have z9_ := congrArg Int32.toInt ef1430; have z10_ := congrArg Int32.toInt ef1431; have z_ := w_lits; have zl_ := l_lits; omega) (by have z0_ := congrArg Int32.toInt z1421; have z1_ := congrArg Int32.toInt ef1422; have z2_ := congrArg Int32.toInt ef1423; have z3_ := congrArg Int32.toInt ef1424; have z4_ := congrArg Int32.toInt ef1425; have z5_ := congrArg Int32.toInt ef1426; have z6_ := congrArg Int32.toInt ef1427; have z7_ := congrArg Int32.toInt ef1428; have z8_ := congrArg Int32.toInt ef1429; have z9_ := congrArg Int32.toInt ef1430; have z10_ := congrArg Int32.toInt ef1431; have z11_ := rd_; have z_ := w_lits; have zl_ := l_lits; omega))))
  exact (lp19_1414 330 1 1 h14 ((by decide : B 1 1 1).mono (by decide) (by decide)) (by decide : B 1 1 1) hJ14 (rd_o k14 (rd_o k13 (rd_o k12 ef1 rfl) rfl) rfl) (by have z0_ := congrArg Int32.toInt (rd_o k14 (rd_s k13) rfl); have z1_ := congrArg Int32.toInt (rd_o k14 (rd_o k13 (rd_s k12) rfl) rfl); have z2_ := congrArg Int32.toInt (rd_o k14 (rd_o k13 (rd_o k12 ef8 rfl) rfl) rfl); have z_ := w_lits; have zl_ := l_lits; omega) (by have z0_ := congrArg Int32.toInt (rd_o k14 (rd_s k13) rfl); have z1_ := congrArg Int32.toInt (rd_o k14 (rd_o k13 (rd_s k12) rfl) rfl); have z2_ := congrArg Int32.toInt (rd_o k14 (rd_o k13 (rd_o k12 ef8 rfl) rfl) rfl); have z3_ := congrArg Int32.toInt (rd_o k14 (rd_o k13 (rd_o k12 ef9 rfl) rfl) rfl); have z_ := w_lits; have zl_ := l_lits; omega) (by have z0_ := congrArg Int32.toInt (rd_o k14 (rd_s k13) rfl); have z1_ := congrArg Int32.toInt (rd_o k14 (rd_o k13 (rd_s k12) rfl) rfl); have z2_ := congrArg Int32.toInt (rd_o k14 (rd_o k13 (rd_o k12 ef9 rfl) rfl) rfl); have z3_ := congrArg Int32.toInt (rd_o k14 (rd_o k13 (rd_o k12 ef10 rfl) rfl) rfl); have z_ := w_lits; have zl_ := l_lits; omega) (by have z0_ := congrArg Int32.toInt (rd_o k14 (rd_s k13) rfl); have z1_ := congrArg Int32.toInt (rd_o k14 (rd_o k13 (rd_s k12) rfl) rfl); have z2_ := congrArg Int32.toInt (rd_o k14 (rd_o k13 (rd_o k12 ef10 rfl) rfl) rfl); have z3_ := congrArg Int32.toInt (rd_o k14 (rd_o k13 (rd_o k12 ef11 rfl) rfl) rfl); have z_ := w_lits; have zl_ := l_lits; omega) (by have z0_ := congrArg Int32.toInt (rd_o k14 (rd_o k13 (rd_o k12 ef1 rfl) rfl) rfl); have z1_ := congrArg Int32.toInt (rd_o k14 (rd_o k13 (rd_o k12 ef2 rfl) rfl) rfl); have z_ := w_lits; have zl_ := l_lits; omega) (by have z0_ := congrArg Int32.toInt (rd_o k14 (rd_o k13 (rd_o k12 ef3 rfl) rfl) rfl); have z1_ := congrArg Int32.toInt (rd_o k14 (rd_o k13 (rd_o k12 ef4 rfl) rfl) rfl); have z2_ := congrArg Int32.toInt (rd_o k14 (rd_o k13 (rd_o k12 ef5 rfl) rfl) rfl); have z_ := w_lits; have zl_ := l_lits; omega) (mM_top _ _ _ (hJ14.1 63 17)))
