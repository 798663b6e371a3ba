theorem RE.cg {h h1 : Hp} (hE : RE h) (e2 : ∀ j, h1 2 j = h 2 j) (eW : ∀ i j, 4 ≤ i → i ≤ 10 → h1 i j = h i j) (e11 : ∀ j, h1 11 j = h 11 j) (e13 : ∀ i, i < 10 → ∀ j, h1 (13 + i) j = h (13 + i) j) (e63 : ∀ f, f < 6 → h1 63 f = h 63 f) (e6a : h1 63 13 = h 63 13) (eM : ∀ i j, 64 ≤ i → i ≤ 71 → h1 i j = h i j) : RE h1 := by
  obtain ⟨hb, hw, ⟨ha1, ha2⟩, ha3⟩ := hE
  have f71 : h1 71 = h 71 := funext (fun j => eM 71 j (by decide) (by decide))
  have f9 : h1 9 = h 9 := funext (fun j => eW 9 j (by decide) (by decide))
  have f10 : h1 10 = h 10 := funext (fun j => eW 10 j (by decide) (by decide))
  have ew : nW h1 = nW h := by unfold nW; rw [eW 4 7 (by decide) (by decide)]
  have eA : nA_ h1 = nA_ h := by unfold nA_; rw [e6a]
  have eX : nX h1 = nX h := by unfold nX; rw [e11]
  have eK : ∀ k, cK h1 k = cK h k := fun k => by unfold cK; rw [f71]
  refine ⟨?_, RWs.cg hw (fun i j a b => eW i j a b) (e63 5 (by decide)) (fun i j a b => eM i j a (by omega)), ⟨?_, fun k hk => ?_⟩, fun q => ?_⟩
  · unfold RBo
    rw [e2, e2, e2, e2, e2, e63 0 (by decide), e63 1 (by decide), e63 2 (by decide), e63 3 (by decide), e63 4 (by decide)]
    exact hb
  · rw [e11, e6a]; exact ha1
  · rw [eA] at hk
    have z := ha2 k hk
    have f13 : h1 (13 + (nX h + 10 - nA_ h + k) % 10) = h (13 + (nX h + 10 - nA_ h + k) % 10) := funext (fun j => e13 _ (Nat.mod_lt _ (by decide)) j)
    unfold rI at z ⊢
    rw [eX, eA]
    unfold RRow at z ⊢
    rw [f13, f71, eK, ew, eK]
    exact z
  · rw [eA] at q ⊢
    rw [eK, f9, f10, eW 4 6 (by decide) (by decide)]
    exact ha3 q
theorem RE.call {W : List (Nat × Nat)} {h h1 : Hp} (hE : RE h) (hJ : JW W h h1) (v0 : ∀ j, wm W 2 j = false) (v1 : ∀ j, wm W 4 j = false) (v2 : ∀ j, wm W 5 j = false) (v3 : ∀ j, wm W 6 j = false) (v4 : ∀ j, wm W 7 j = false) (v5 : ∀ j, wm W 8 j = false) (v6 : ∀ j, wm W 9 j = false) (v7 : ∀ j, wm W 10 j = false) (v8 : ∀ j, wm W 11 j = false) (v9 : ∀ j, wm W 13 j = false) (v10 : ∀ j, wm W 14 j = false) (v11 : ∀ j, wm W 15 j = false) (v12 : ∀ j, wm W 16 j = false) (v13 : ∀ j, wm W 17 j = false) (v14 : ∀ j, wm W 18 j = false) (v15 : ∀ j, wm W 19 j = false) (v16 : ∀ j, wm W 20 j = false) (v17 : ∀ j, wm W 21 j = false) (v18 : ∀ j, wm W 22 j = false) (v19 : wm W 63 0 = false) (v20 : wm W 63 1 = false) (v21 : wm W 63 2 = false) (v22 : wm W 63 3 = false) (v23 : wm W 63 4 = false) (v24 : wm W 63 5 = false) (v25 : wm W 63 13 = false) (v26 : ∀ j, wm W 64 j = false) (v27 : ∀ j, wm W 65 j = false) (v28 : ∀ j, wm W 66 j = false) (v29 : ∀ j, wm W 67 j = false) (v30 : ∀ j, wm W 68 j = false) (v31 : ∀ j, wm W 69 j = false) (v32 : ∀ j, wm W 70 j = false) (v33 : ∀ j, wm W 71 j = false) : RE h1 := by
  refine RE.cg hE (fun j => hJ.2 2 j (v0 j)) (fun i j a b => ?_) (fun j => hJ.2 11 j (v8 j)) (fun i hi j => ?_) (fun f hf => ?_) (hJ.2 63 13 v25) (fun i j a b => ?_)
  · rcases (show i = 4 ∨ i = 5 ∨ i = 6 ∨ i = 7 ∨ i = 8 ∨ i = 9 ∨ i = 10 by omega) with rfl | rfl | rfl | rfl | rfl | rfl | rfl
    · exact hJ.2 4 j (v1 j)
    · exact hJ.2 5 j (v2 j)
    · exact hJ.2 6 j (v3 j)
    · exact hJ.2 7 j (v4 j)
    · exact hJ.2 8 j (v5 j)
    · exact hJ.2 9 j (v6 j)
    · exact hJ.2 10 j (v7 j)
  · rcases (show i = 0 ∨ i = 1 ∨ i = 2 ∨ i = 3 ∨ i = 4 ∨ i = 5 ∨ i = 6 ∨ i = 7 ∨ i = 8 ∨ i = 9 by omega) with rfl | rfl | rfl | rfl | rfl | rfl | rfl | rfl | rfl | rfl
    · exact hJ.2 13 j (v9 j)
    · exact hJ.2 14 j (v10 j)
    · exact hJ.2 15 j (v11 j)
    · exact hJ.2 16 j (v12 j)
    · exact hJ.2 17 j (v13 j)
    · exact hJ.2 18 j (v14 j)
    · exact hJ.2 19 j (v15 j)
    · exact hJ.2 20 j (v16 j)
    · exact hJ.2 21 j (v17 j)
    · exact hJ.2 22 j (v18 j)
  · rcases (show f = 0 ∨ f = 1 ∨ f = 2 ∨ f = 3 ∨ f = 4 ∨ f = 5 by omega) with rfl | rfl | rfl | rfl | rfl | rfl
    · exact hJ.2 63 0 v19
    · exact hJ.2 63 1 v20
    · exact hJ.2 63 2 v21
    · exact hJ.2 63 3 v22
    · exact hJ.2 63 4 v23
    · exact hJ.2 63 5 v24
  · rcases (show i = 64 ∨ i = 65 ∨ i = 66 ∨ i = 67 ∨ i = 68 ∨ i = 69 ∨ i = 70 ∨ i = 71 by omega) with rfl | rfl | rfl | rfl | rfl | rfl | rfl | rfl
    · exact hJ.2 64 j (v26 j)
    · exact hJ.2 65 j (v27 j)
    · exact hJ.2 66 j (v28 j)
    · exact hJ.2 67 j (v29 j)
    · exact hJ.2 68 j (v30 j)
    · exact hJ.2 69 j (v31 j)
    · exact hJ.2 70 j (v32 j)
    · exact hJ.2 71 j (v33 j)

abbrev SVT (h : Hp) : Prop := (h 63 0).toInt ≤ (h 63 3).toInt
theorem KS.c71 {h h1 : Hp} (hK : KS h) (e : ∀ j, h1 71 j = h 71 j) : KS h1 := fun a ha => by
  unfold KSr
  rw [e, e]
  exact hK a ha
theorem k_mkp_hi {h : Hp} (hB : Bx h) {j : Nat} (hj : 42 * (if nA_ h = 10 then 9 else nA_ h) + 42 ≤ j) : k_mkp h 71 j = h 71 j := by
  have p10 : B (h 63 13) 0 10 := hB 63 13
  have ea : h 63 13 = nI (nA_ h) := (B.nI (u := 10) p10).1
  have la : nA_ h ≤ 10 := (B.nI (u := 10) p10).2
  unfold k_mkp
  by_cases q : nA_ h = 10
  · rw [if_pos q] at hj
    rw [if_pos (show h 63 13 = 10 by rw [ea, q]; rfl), k_mkeep_71, k_mk_out (by omega) 12 (by decide), ev_rd2 (by decide), k_msh_ge (by omega)]
  · rw [if_neg q] at hj
    have q1 : ¬ h 63 13 = 10 := fun z => q ((nI_eq (a := nA_ h) (b := 10) (by omega) (by decide)).mp (ea.symm.trans z))
    rw [if_neg q1, k_mkeep_71, k_mk_out (by unfold nA_ at hj; omega) 12 (by decide)]
theorem ks_mkp {h : Hp} (hB : Bx h) (hs : SVT h) (hK : KS h) : KS (k_mkp h) := fun a ha => by
  have la : nA_ h ≤ 10 := (B.nI (u := 10) (hB 63 13)).2
  have hi := fun j => k_mkp_hi (j := j) hB
  obtain ⟨m1, m2, m3, m4, m5⟩ := km_keep hB
  generalize (if nA_ h = 10 then 9 else nA_ h) = r at *
  unfold KSr
  by_cases e : a = r
  · subst e
    have z0 := m1 0 (by decide)
    rw [Nat.add_zero] at z0
    rw [z0, m1 3 (by decide)]
    exact hs
  · by_cases l : a < r
    · rcases m5 with ⟨-, y, z⟩ | ⟨-, y, z⟩
      · rw [z _ (by omega), z _ (by omega)]
        exact hK a ha
      · rw [z _ (by omega), z _ (by omega)]
        have q := hK (a + 1) (by omega)
        unfold KSr at q
        rw [show 42 * a + 42 = 42 * (a + 1) by omega, show 42 * a + 3 + 42 = 42 * (a + 1) + 3 by omega]
        exact q
    · rw [hi _ (by omega), hi _ (by omega)]
      exact hK a ha

theorem inv_fire {h : Hp} (hB : Bx h) (hs : SVT h) (hK : KS h) (v : Int32) : SVT (kmFi h v) ∧ KS (kmFi h v) := by
  have k0 := ks_mkp hB hs hK
  unfold kmFi
  repeat' split
  all_goals first | exact ⟨hs, hK⟩ | exact ⟨(by show (_ : Int) ≤ _; simp (disch := omega) only [ev_rd1, ev_rd2, ev_rd3, k_mkp_63, k_mkp_o]; exact hs), KS.c71 k0 (fun j => by simp (disch := omega) only [ev_rd1, ev_rd2, ev_rd3, k_mkp_63, k_mkp_o])⟩

theorem inv_water {h : Hp} (hB : Bx h) (hs : SVT h) (hK : KS h) (v : Int32) : SVT (kmWa h v) ∧ KS (kmWa h v) := by
  have k0 := ks_mkp hB hs hK
  unfold kmWa
  repeat' split
  all_goals first | exact ⟨hs, hK⟩ | exact ⟨(by show (_ : Int) ≤ _; simp (disch := omega) only [ev_rd1, ev_rd2, ev_rd3, k_mkp_63, k_mkp_o]; exact hs), KS.c71 k0 (fun j => by simp (disch := omega) only [ev_rd1, ev_rd2, ev_rd3, k_mkp_63, k_mkp_o])⟩

theorem inv_stem {h : Hp} (hB : Bx h) (hs : SVT h) (hK : KS h) (w v : Int32) : SVT (kmSt_ h w v) ∧ KS (kmSt_ h w v) := by
  have k0 := ks_mkp hB hs hK
  unfold kmSt_
  repeat' split
  all_goals first | exact ⟨hs, hK⟩ | exact ⟨(by show (_ : Int) ≤ _; simp (disch := omega) only [ev_rd1, ev_rd2, ev_rd3, k_mkp_63, k_mkp_o]; exact hs), KS.c71 k0 (fun j => by simp (disch := omega) only [ev_rd1, ev_rd2, ev_rd3, k_mkp_63, k_mkp_o])⟩

theorem inv_crack {h : Hp} (hB : Bx h) (hs : SVT h) (hK : KS h) (w v : Int32) : SVT (kmCr h w v) ∧ KS (kmCr h w v) := by
  have k0 := ks_mkp hB hs hK
  unfold kmCr
  repeat' split
  all_goals first | exact ⟨hs, hK⟩ | exact ⟨(by show (_ : Int) ≤ _; simp (disch := omega) only [ev_rd1, ev_rd2, ev_rd3, k_mkp_63, k_mkp_o]; exact hs), KS.c71 k0 (fun j => by simp (disch := omega) only [ev_rd1, ev_rd2, ev_rd3, k_mkp_63, k_mkp_o])⟩

theorem inv_leak {h : Hp} (hB : Bx h) (hs : SVT h) (hK : KS h) (w v : Int32) : SVT (kmLk h w v) ∧ KS (kmLk h w v) := by
  have k0 := ks_mkp hB hs hK
  unfold kmLk
  repeat' split
  all_goals first | exact ⟨hs, hK⟩ | exact ⟨(by show (_ : Int) ≤ _; simp (disch := omega) only [ev_rd1, ev_rd2, ev_rd3, k_mkp_63, k_mkp_o]; exact hs), KS.c71 k0 (fun j => by simp (disch := omega) only [ev_rd1, ev_rd2, ev_rd3, k_mkp_63, k_mkp_o])⟩

theorem inv_valve {h : Hp} (hB : Bx h) (hs : SVT h) (hK : KS h) (v : Int32) : SVT (kmVa h v) ∧ KS (kmVa h v) := by
  have k0 := ks_mkp hB hs hK
  unfold kmVa
  by_cases q : z_wi v 50 200 = 0
  · rw [if_pos q]; exact ⟨hs, hK⟩
  · rw [if_neg q]
    refine ⟨?_, KS.c71 k0 (fun j => by simp (disch := omega) only [ev_rd1, ev_rd2, ev_rd3, k_mkp_63, k_mkp_o])⟩
    show (_ : Int) ≤ _
    rw [ev_rd1, ev_rd3 (by decide), ev_rd1]
    split
    · rename_i y; exact w_le y
    · exact Int.le_refl _

theorem inv_pressure {h : Hp} (hB : Bx h) (hs : SVT h) (hK : KS h) (v : Int32) : SVT (kmPr h v) ∧ KS (kmPr h v) := by
  have k0 := ks_mkp hB hs hK
  unfold kmPr
  by_cases q : z_wi v 0 (h 63 3) = 0
  · rw [if_pos q]; exact ⟨hs, hK⟩
  · rw [if_neg q]
    refine ⟨?_, KS.c71 k0 (fun j => by simp (disch := omega) only [ev_rd1, ev_rd2, ev_rd3, k_mkp_63, k_mkp_o])⟩
    show (_ : Int) ≤ _
    rw [ev_rd1, ev_rd3 (by decide), k_mkp_63 (by decide)]
    exact (z_wi_B (by decide : B 0 0 0) (⟨Int.le_refl _, Int.le_refl _⟩ : B (h 63 3) (h 63 3).toInt (h 63 3).toInt) q).2

theorem inv_beat {h : Hp} (hB : Bx h) (hs : SVT h) (hK : KS h) (m : Nat) (c : Int32) : SVT (kmBe h m c) ∧ KS (kmBe h m c) := by
  have k0 := ks_mkp hB hs hK
  unfold kmBe
  by_cases q : z_inA c (h 63 5) = 0
  · rw [if_pos q]; exact ⟨hs, hK⟩
  · rw [if_neg q]
    by_cases q2 : s_md h c m ≤ h 63 1
    · rw [if_pos q2]
      refine ⟨?_, KS.c71 k0 (fun j => k_mg_ne (by decide))⟩
      show (_ : Int) ≤ _
      rw [(k_mg_63 _ _ _ _).1, k_mg_6o (by decide) (by decide) (by decide), k_mkp_63 (by decide)]
      unfold g_0
      split
      · rename_i y; exact w_le y
      · exact Int.le_refl _
    · rw [if_neg q2]; exact ⟨hs, hK⟩

theorem inv_tuneAll {h : Hp} (hB : Bx h) (hs : SVT h) (hK : KS h) (m : Nat) (p : Int32) : SVT (kmTu h m p) ∧ KS (kmTu h m p) := by
  have k0 := ks_mkp hB hs hK
  unfold kmTu
  by_cases q : z_wi p 0 200 = 0
  · rw [if_pos q]; exact ⟨hs, hK⟩
  · rw [if_neg q]
    refine ⟨?_, KS.c71 k0 (fun j => k_mn_ne (by decide))⟩
    show (_ : Int) ≤ _
    rw [k_mn_ne (by decide), k_mn_ne (by decide), k_mkp_63 (by decide), k_mkp_63 (by decide)]
    exact hs

theorem inv_play {h : Hp} (hB : Bx h) (hs : SVT h) (hK : KS h) (t k : Int32) : SVT (km_play h t k) ∧ KS (km_play h t k) := by
  have k0 := ks_mkp hB hs hK
  unfold km_play
  by_cases q0 : z_has t (h 63 23) = 0
  · rw [if_pos q0]; exact ⟨hs, hK⟩
  by_cases q1 : z_wi k (-11) 11 = 0
  · rw [if_neg q0, if_pos q1]; exact ⟨hs, hK⟩
  by_cases q2 : inM h t k = 0
  · rw [if_neg q0, if_neg q1, if_pos q2]; exact ⟨hs, hK⟩
  by_cases q3 : (yMr h t k).1 = -100
  · rw [if_neg q0, if_neg q1, if_neg q2, if_pos q3]; exact ⟨hs, hK⟩
  rw [if_neg q0, if_neg q1, if_neg q2, if_neg q3]
  refine ⟨?_, KS.c71 k0 (fun j => k_m3_ne (by decide))⟩
  have e3 : k_m3 (k_mkp h) (yMr h t k).2 63 3 = h 63 3 := by rw [k_m3_6o (by decide) (by decide) (by decide), k_mkp_63 (by decide)]
  show ((yMr h t k).2.1).toInt ≤ (k_m3 (k_mkp h) (yMr h t k).2 63 3).toInt
  rw [e3]
  exact (y_run_B (f := h 63 2) (D := dM h t.toNatClampNeg (h 63 5).toNatClampNeg k) (S := sM h t.toNatClampNeg (h 63 5).toNatClampNeg k) (hB 63 3) (h 73 t.toNatClampNeg).toNatClampNeg 0 (h 63 0, h 63 1, h 63 4) 0 (hB 63 0) hs).2

theorem inv_undo {h : Hp} (hK : KS h) {k c : Nat} (hk : k < 10) : SVT (k_mud h k c) ∧ KS (k_mud h k c) := by
  refine ⟨?_, KS.c71 hK (fun j => k_mud_o (by decide) (by decide) (by decide) (by decide))⟩
  show (_ : Int) ≤ _
  rw [k_mud_63 (by decide), k_mud_63 (by decide)]
  exact hK k hk
theorem nA_ge {w n d s : Int32} (hw : B w 0 12) : w.toInt ≤ (nA w n d s).toInt ∧ B (nA w n d s) 0 12 := by
  unfold nA
  have h1 := hw.1
  have h2 := hw.2
  have e1 : (1 : Int32).toInt = 1 := by decide
  have e12 : (12 : Int32).toInt = 12 := by decide
  repeat' split
  all_goals first | exact ⟨Int.le_refl _, hw⟩ | skip
  rename_i q
  have q1 := w_lt q
  have e := w_add (x := w) (y := 1) (by omega) (by omega)
  exact ⟨by omega, ⟨by omega, by omega⟩⟩
theorem sc_ge {c : Nat → Int32} {s f : Int32} : ∀ (t i : Nat) (w : Int32), B w 0 12 → ¬ sc c s f t i w < 0 → w.toInt ≤ (sc c s f t i w).toInt
  | 0, _, w, _, _ => Int.le_refl _
  | t + 1, i, w, hw, hn => by
    unfold sc at hn ⊢
    by_cases q : oC c s (f + 4 * nI i) w < 0
    · rw [if_pos q] at hn; exact absurd q hn
    · rw [if_neg q] at hn ⊢
      have g : w.toInt ≤ (oN c s (f + 4 * nI i) w).toInt ∧ B (oN c s (f + 4 * nI i) w) 0 12 := by
        unfold oN
        split
        · exact nA_ge hw
        · exact ⟨Int.le_refl _, hw⟩
      have z := sc_ge t (i + 1) _ g.2 hn
      omega
theorem scN_ge {h : Hp} (hB : Bx h) (k l f n : Int32) : (h 4 7).toInt ≤ (scNc h k l f n).toInt := by
  unfold scNc
  repeat' split
  all_goals first | exact Int.le_refl _ | skip
  rename_i q
  exact sc_ge _ _ _ (hB 4 7) q
theorem rel_scanF {h h1 h2 : Hp} (hB : Bx h) (hB1 : Bx h1) (hB2 : Bx h2) (hE : RE h) (hS : RSh h) {k l f n : Int32} (J1 : JW [(4, 7), (5, 999), (6, 999), (7, 999), (8, 999)] h h1) (J2 : JW [(63, 5), (64, 999), (65, 999), (66, 999), (67, 999), (68, 999), (69, 999), (70, 999)] h1 h2) (f1 : h1 4 7 = scNc h k l f n) (p1 : PSc (h (57 + k.toNatClampNeg)) f h h1) (f2 : h2 63 5 = scNm h1 k l f n) (p2 : PSm (fun y => h1 94 (60 * k.toNatClampNeg + y)) f h1 h2) : RE h2 := by
  have e7 : h2 63 5 = h1 4 7 := by rw [f2, f1, mscanN_cg J1]; exact (rel_scan hB ⟨hS, hE.2.1.1⟩ k l f n).2.symm
  have hl : nW h ≤ nW h1 := by
    have z := scN_ge hB k l f n
    rw [← f1] at z
    show (h 4 7).toInt.toNat ≤ (h1 4 7).toInt.toNat
    omega
  have e94 : ∀ y, h1 94 y = h 94 y := fun y => J1.2 94 y rfl
  by_cases q : k.toNatClampNeg < 4
  · refine rel_scanE hB hB1 hB2 hE (fun x hx => ?_) J1 J2 p1 p2 e7 hl
    rw [e94]
    exact (hS k.toNatClampNeg q).2.2 x hx
  · have qz : z_has k 4 = 0 := Decidable.byContradiction (fun y => by
      obtain ⟨j, hj, rfl⟩ := z_hask (x := 4) (m := 4) (N := 4) rfl (Nat.le_refl _) (by decide) y
      rw [nI_clamp (show j < 2 ^ 31 by omega)] at q
      exact q hj)
    have en : h1 4 7 = h 4 7 := by rw [f1]; unfold scNc; rw [if_pos qz]
    have p1' : PSc (fun y => h1 94 (60 * k.toNatClampNeg + y)) f h h1 := ⟨p1.1, by rw [en, Nat.sub_self]; exact fun u hu => absurd hu (Nat.not_lt_zero _)⟩
    exact rel_scanE hB hB1 hB2 hE (fun x hx => rfl) J1 J2 p1' p2 e7 hl
theorem bit0 (w : Nat) (hw : w < 12) : (0 : Int32) >>> (nI w &&& 31) &&& 1 = 0 := by
  rcases (show w = 0 ∨ w = 1 ∨ w = 2 ∨ w = 3 ∨ w = 4 ∨ w = 5 ∨ w = 6 ∨ w = 7 ∨ w = 8 ∨ w = 9 ∨ w = 10 ∨ w = 11 by omega) with rfl | rfl | rfl | rfl | rfl | rfl | rfl | rfl | rfl | rfl | rfl | rfl <;> decide

