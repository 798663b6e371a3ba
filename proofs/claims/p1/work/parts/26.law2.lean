set_option maxRecDepth 100000 in
set_option maxHeartbeats 4000000 in
theorem w_one (xs : Nat → Int32) : EvQ mi_L_law 18 [some (.ref 0), some (.ref 1), some (.ref 63), some (.int 0)] [] (G0 8 false) (hf xs) 0 0 QL := by
  refine ev_iload_n rfl rfl rfl ?_
  refine ev_aload_n rfl rfl rfl ?_
  refine ev_alen rfl rfl rfl ?_
  refine ev_bipush (v := 8) rfl rfl (by decide) ?_
  refine ev_isub rfl rfl ?_
  refine ev_icmp_gt rfl rfl (fun z_ => absurd z_ (by decide)) (fun c_24 => ?_)
  refine ev_aload_n rfl rfl rfl ?_
  refine ev_iload_n rfl rfl rfl ?_
  refine ev_iald (j := 0) rfl rfl rfl (by unfold vp_in; decide) (by decide) ?_
  refine ev_bipush (v := 63) rfl rfl (by decide) ?_
  refine ev_iand rfl rfl ?_
  rcases ev_sw (hf xs 0 0 &&& 63) 0 35 with w_ | ⟨w_, w2_⟩
  · have n0_ : ¬ (hf xs 0 0 &&& 63) = 0 := fun e_ => by rw [e_] at w_; exact absurd w_ (by decide)
    have n1_ : ¬ (hf xs 0 0 &&& 63) = 1 := fun e_ => by rw [e_] at w_; exact absurd w_ (by decide)
    have n2_ : ¬ (hf xs 0 0 &&& 63) = 2 := fun e_ => by rw [e_] at w_; exact absurd w_ (by decide)
    have n3_ : ¬ (hf xs 0 0 &&& 63) = 3 := fun e_ => by rw [e_] at w_; exact absurd w_ (by decide)
    have n4_ : ¬ (hf xs 0 0 &&& 63) = 4 := fun e_ => by rw [e_] at w_; exact absurd w_ (by decide)
    have n5_ : ¬ (hf xs 0 0 &&& 63) = 5 := fun e_ => by rw [e_] at w_; exact absurd w_ (by decide)
    have n6_ : ¬ (hf xs 0 0 &&& 63) = 6 := fun e_ => by rw [e_] at w_; exact absurd w_ (by decide)
    have n7_ : ¬ (hf xs 0 0 &&& 63) = 7 := fun e_ => by rw [e_] at w_; exact absurd w_ (by decide)
    have n8_ : ¬ (hf xs 0 0 &&& 63) = 8 := fun e_ => by rw [e_] at w_; exact absurd w_ (by decide)
    have n9_ : ¬ (hf xs 0 0 &&& 63) = 9 := fun e_ => by rw [e_] at w_; exact absurd w_ (by decide)
    have n10_ : ¬ (hf xs 0 0 &&& 63) = 10 := fun e_ => by rw [e_] at w_; exact absurd w_ (by decide)
    have n11_ : ¬ (hf xs 0 0 &&& 63) = 11 := fun e_ => by rw [e_] at w_; exact absurd w_ (by decide)
    have n12_ : ¬ (hf xs 0 0 &&& 63) = 12 := fun e_ => by rw [e_] at w_; exact absurd w_ (by decide)
    have n13_ : ¬ (hf xs 0 0 &&& 63) = 13 := fun e_ => by rw [e_] at w_; exact absurd w_ (by decide)
    have n14_ : ¬ (hf xs 0 0 &&& 63) = 14 := fun e_ => by rw [e_] at w_; exact absurd w_ (by decide)
    have n15_ : ¬ (hf xs 0 0 &&& 63) = 15 := fun e_ => by rw [e_] at w_; exact absurd w_ (by decide)
    have n16_ : ¬ (hf xs 0 0 &&& 63) = 16 := fun e_ => by rw [e_] at w_; exact absurd w_ (by decide)
    have n17_ : ¬ (hf xs 0 0 &&& 63) = 17 := fun e_ => by rw [e_] at w_; exact absurd w_ (by decide)
    have n18_ : ¬ (hf xs 0 0 &&& 63) = 18 := fun e_ => by rw [e_] at w_; exact absurd w_ (by decide)
    have n19_ : ¬ (hf xs 0 0 &&& 63) = 19 := fun e_ => by rw [e_] at w_; exact absurd w_ (by decide)
    have n20_ : ¬ (hf xs 0 0 &&& 63) = 20 := fun e_ => by rw [e_] at w_; exact absurd w_ (by decide)
    have n21_ : ¬ (hf xs 0 0 &&& 63) = 21 := fun e_ => by rw [e_] at w_; exact absurd w_ (by decide)
    have n22_ : ¬ (hf xs 0 0 &&& 63) = 22 := fun e_ => by rw [e_] at w_; exact absurd w_ (by decide)
    have n23_ : ¬ (hf xs 0 0 &&& 63) = 23 := fun e_ => by rw [e_] at w_; exact absurd w_ (by decide)
    have n24_ : ¬ (hf xs 0 0 &&& 63) = 24 := fun e_ => by rw [e_] at w_; exact absurd w_ (by decide)
    have n25_ : ¬ (hf xs 0 0 &&& 63) = 25 := fun e_ => by rw [e_] at w_; exact absurd w_ (by decide)
    have n26_ : ¬ (hf xs 0 0 &&& 63) = 26 := fun e_ => by rw [e_] at w_; exact absurd w_ (by decide)
    have n27_ : ¬ (hf xs 0 0 &&& 63) = 27 := fun e_ => by rw [e_] at w_; exact absurd w_ (by decide)
    have n28_ : ¬ (hf xs 0 0 &&& 63) = 28 := fun e_ => by rw [e_] at w_; exact absurd w_ (by decide)
    have n29_ : ¬ (hf xs 0 0 &&& 63) = 29 := fun e_ => by rw [e_] at w_; exact absurd w_ (by decide)
    have n30_ : ¬ (hf xs 0 0 &&& 63) = 30 := fun e_ => by rw [e_] at w_; exact absurd w_ (by decide)
    have n31_ : ¬ (hf xs 0 0 &&& 63) = 31 := fun e_ => by rw [e_] at w_; exact absurd w_ (by decide)
    have n32_ : ¬ (hf xs 0 0 &&& 63) = 32 := fun e_ => by rw [e_] at w_; exact absurd w_ (by decide)
    have n33_ : ¬ (hf xs 0 0 &&& 63) = 33 := fun e_ => by rw [e_] at w_; exact absurd w_ (by decide)
    have n34_ : ¬ (hf xs 0 0 &&& 63) = 34 := fun e_ => by rw [e_] at w_; exact absurd w_ (by decide)
    have n35_ : ¬ (hf xs 0 0 &&& 63) = 35 := fun e_ => by rw [e_] at w_; exact absurd w_ (by decide)
    refine ev_tabOut 1426 rfl w_ (by decide) ?_
    exact w_fin _
  · have w3_ : (hf xs 0 0 &&& 63) = 0 ∨ (hf xs 0 0 &&& 63) = 1 ∨ (hf xs 0 0 &&& 63) = 2 ∨ (hf xs 0 0 &&& 63) = 3 ∨ (hf xs 0 0 &&& 63) = 4 ∨ (hf xs 0 0 &&& 63) = 5 ∨ (hf xs 0 0 &&& 63) = 6 ∨ (hf xs 0 0 &&& 63) = 7 ∨ (hf xs 0 0 &&& 63) = 8 ∨ (hf xs 0 0 &&& 63) = 9 ∨ (hf xs 0 0 &&& 63) = 10 ∨ (hf xs 0 0 &&& 63) = 11 ∨ (hf xs 0 0 &&& 63) = 12 ∨ (hf xs 0 0 &&& 63) = 13 ∨ (hf xs 0 0 &&& 63) = 14 ∨ (hf xs 0 0 &&& 63) = 15 ∨ (hf xs 0 0 &&& 63) = 16 ∨ (hf xs 0 0 &&& 63) = 17 ∨ (hf xs 0 0 &&& 63) = 18 ∨ (hf xs 0 0 &&& 63) = 19 ∨ (hf xs 0 0 &&& 63) = 20 ∨ (hf xs 0 0 &&& 63) = 21 ∨ (hf xs 0 0 &&& 63) = 22 ∨ (hf xs 0 0 &&& 63) = 23 ∨ (hf xs 0 0 &&& 63) = 24 ∨ (hf xs 0 0 &&& 63) = 25 ∨ (hf xs 0 0 &&& 63) = 26 ∨ (hf xs 0 0 &&& 63) = 27 ∨ (hf xs 0 0 &&& 63) = 28 ∨ (hf xs 0 0 &&& 63) = 29 ∨ (hf xs 0 0 &&& 63) = 30 ∨ (hf xs 0 0 &&& 63) = 31 ∨ (hf xs 0 0 &&& 63) = 32 ∨ (hf xs 0 0 &&& 63) = 33 ∨ (hf xs 0 0 &&& 63) = 34 ∨ (hf xs 0 0 &&& 63) = 35 := by simp only [← Int32.toInt_inj]; have e_ := w_; have e2_ := w2_; simp only [Int32.reduceToInt] at *; omega
    rcases w3_ with e_ | e_ | e_ | e_ | e_ | e_ | e_ | e_ | e_ | e_ | e_ | e_ | e_ | e_ | e_ | e_ | e_ | e_ | e_ | e_ | e_ | e_ | e_ | e_ | e_ | e_ | e_ | e_ | e_ | e_ | e_ | e_ | e_ | e_ | e_ | e_
    · refine ev_tabIn 192 rfl (by rw [e_]; decide) (by rw [e_]; decide) (by rw [e_]; rfl) (by decide) ?_
      exact w_c_fire xs
    · have n0_ : ¬ (hf xs 0 0 &&& 63) = 0 := by rw [e_]; decide
      refine ev_tabIn 215 rfl (by rw [e_]; decide) (by rw [e_]; decide) (by rw [e_]; rfl) (by decide) ?_
      exact w_c_water xs
    · have n0_ : ¬ (hf xs 0 0 &&& 63) = 0 := by rw [e_]; decide
      have n1_ : ¬ (hf xs 0 0 &&& 63) = 1 := by rw [e_]; decide
      refine ev_tabIn 238 rfl (by rw [e_]; decide) (by rw [e_]; decide) (by rw [e_]; rfl) (by decide) ?_
      exact w_c_valve xs
    · have n0_ : ¬ (hf xs 0 0 &&& 63) = 0 := by rw [e_]; decide
      have n1_ : ¬ (hf xs 0 0 &&& 63) = 1 := by rw [e_]; decide
      have n2_ : ¬ (hf xs 0 0 &&& 63) = 2 := by rw [e_]; decide
      refine ev_tabIn 261 rfl (by rw [e_]; decide) (by rw [e_]; decide) (by rw [e_]; rfl) (by decide) ?_
      exact w_c_pressure xs
    · have n0_ : ¬ (hf xs 0 0 &&& 63) = 0 := by rw [e_]; decide
      have n1_ : ¬ (hf xs 0 0 &&& 63) = 1 := by rw [e_]; decide
      have n2_ : ¬ (hf xs 0 0 &&& 63) = 2 := by rw [e_]; decide
      have n3_ : ¬ (hf xs 0 0 &&& 63) = 3 := by rw [e_]; decide
      refine ev_tabIn 284 rfl (by rw [e_]; decide) (by rw [e_]; decide) (by rw [e_]; rfl) (by decide) ?_
      exact w_c_boiler xs
    · have n0_ : ¬ (hf xs 0 0 &&& 63) = 0 := by rw [e_]; decide
      have n1_ : ¬ (hf xs 0 0 &&& 63) = 1 := by rw [e_]; decide
      have n2_ : ¬ (hf xs 0 0 &&& 63) = 2 := by rw [e_]; decide
      have n3_ : ¬ (hf xs 0 0 &&& 63) = 3 := by rw [e_]; decide
      have n4_ : ¬ (hf xs 0 0 &&& 63) = 4 := by rw [e_]; decide
      refine ev_tabIn 307 rfl (by rw [e_]; decide) (by rw [e_]; decide) (by rw [e_]; rfl) (by decide) ?_
      exact w_c_beat xs
    · have n0_ : ¬ (hf xs 0 0 &&& 63) = 0 := by rw [e_]; decide
      have n1_ : ¬ (hf xs 0 0 &&& 63) = 1 := by rw [e_]; decide
      have n2_ : ¬ (hf xs 0 0 &&& 63) = 2 := by rw [e_]; decide
      have n3_ : ¬ (hf xs 0 0 &&& 63) = 3 := by rw [e_]; decide
      have n4_ : ¬ (hf xs 0 0 &&& 63) = 4 := by rw [e_]; decide
      have n5_ : ¬ (hf xs 0 0 &&& 63) = 5 := by rw [e_]; decide
      refine ev_tabIn 330 rfl (by rw [e_]; decide) (by rw [e_]; decide) (by rw [e_]; rfl) (by decide) ?_
      exact w_c_whistle xs
    · have n0_ : ¬ (hf xs 0 0 &&& 63) = 0 := by rw [e_]; decide
      have n1_ : ¬ (hf xs 0 0 &&& 63) = 1 := by rw [e_]; decide
      have n2_ : ¬ (hf xs 0 0 &&& 63) = 2 := by rw [e_]; decide
      have n3_ : ¬ (hf xs 0 0 &&& 63) = 3 := by rw [e_]; decide
      have n4_ : ¬ (hf xs 0 0 &&& 63) = 4 := by rw [e_]; decide
      have n5_ : ¬ (hf xs 0 0 &&& 63) = 5 := by rw [e_]; decide
      have n6_ : ¬ (hf xs 0 0 &&& 63) = 6 := by rw [e_]; decide
      refine ev_tabIn 399 rfl (by rw [e_]; decide) (by rw [e_]; decide) (by rw [e_]; rfl) (by decide) ?_
      exact w_c_told xs
    · have n0_ : ¬ (hf xs 0 0 &&& 63) = 0 := by rw [e_]; decide
      have n1_ : ¬ (hf xs 0 0 &&& 63) = 1 := by rw [e_]; decide
      have n2_ : ¬ (hf xs 0 0 &&& 63) = 2 := by rw [e_]; decide
      have n3_ : ¬ (hf xs 0 0 &&& 63) = 3 := by rw [e_]; decide
      have n4_ : ¬ (hf xs 0 0 &&& 63) = 4 := by rw [e_]; decide
      have n5_ : ¬ (hf xs 0 0 &&& 63) = 5 := by rw [e_]; decide
      have n6_ : ¬ (hf xs 0 0 &&& 63) = 6 := by rw [e_]; decide
      have n7_ : ¬ (hf xs 0 0 &&& 63) = 7 := by rw [e_]; decide
      refine ev_tabIn 432 rfl (by rw [e_]; decide) (by rw [e_]; decide) (by rw [e_]; rfl) (by decide) ?_
      exact w_c_stem xs
    · have n0_ : ¬ (hf xs 0 0 &&& 63) = 0 := by rw [e_]; decide
      have n1_ : ¬ (hf xs 0 0 &&& 63) = 1 := by rw [e_]; decide
      have n2_ : ¬ (hf xs 0 0 &&& 63) = 2 := by rw [e_]; decide
      have n3_ : ¬ (hf xs 0 0 &&& 63) = 3 := by rw [e_]; decide
      have n4_ : ¬ (hf xs 0 0 &&& 63) = 4 := by rw [e_]; decide
      have n5_ : ¬ (hf xs 0 0 &&& 63) = 5 := by rw [e_]; decide
      have n6_ : ¬ (hf xs 0 0 &&& 63) = 6 := by rw [e_]; decide
      have n7_ : ¬ (hf xs 0 0 &&& 63) = 7 := by rw [e_]; decide
      have n8_ : ¬ (hf xs 0 0 &&& 63) = 8 := by rw [e_]; decide
      refine ev_tabIn 465 rfl (by rw [e_]; decide) (by rw [e_]; decide) (by rw [e_]; rfl) (by decide) ?_
      exact w_c_crack xs
    · have n0_ : ¬ (hf xs 0 0 &&& 63) = 0 := by rw [e_]; decide
      have n1_ : ¬ (hf xs 0 0 &&& 63) = 1 := by rw [e_]; decide
      have n2_ : ¬ (hf xs 0 0 &&& 63) = 2 := by rw [e_]; decide
      have n3_ : ¬ (hf xs 0 0 &&& 63) = 3 := by rw [e_]; decide
      have n4_ : ¬ (hf xs 0 0 &&& 63) = 4 := by rw [e_]; decide
      have n5_ : ¬ (hf xs 0 0 &&& 63) = 5 := by rw [e_]; decide
      have n6_ : ¬ (hf xs 0 0 &&& 63) = 6 := by rw [e_]; decide
      have n7_ : ¬ (hf xs 0 0 &&& 63) = 7 := by rw [e_]; decide
      have n8_ : ¬ (hf xs 0 0 &&& 63) = 8 := by rw [e_]; decide
      have n9_ : ¬ (hf xs 0 0 &&& 63) = 9 := by rw [e_]; decide
      refine ev_tabIn 498 rfl (by rw [e_]; decide) (by rw [e_]; decide) (by rw [e_]; rfl) (by decide) ?_
      exact w_c_leak xs
    · have n0_ : ¬ (hf xs 0 0 &&& 63) = 0 := by rw [e_]; decide
      have n1_ : ¬ (hf xs 0 0 &&& 63) = 1 := by rw [e_]; decide
      have n2_ : ¬ (hf xs 0 0 &&& 63) = 2 := by rw [e_]; decide
      have n3_ : ¬ (hf xs 0 0 &&& 63) = 3 := by rw [e_]; decide
      have n4_ : ¬ (hf xs 0 0 &&& 63) = 4 := by rw [e_]; decide
      have n5_ : ¬ (hf xs 0 0 &&& 63) = 5 := by rw [e_]; decide
      have n6_ : ¬ (hf xs 0 0 &&& 63) = 6 := by rw [e_]; decide
      have n7_ : ¬ (hf xs 0 0 &&& 63) = 7 := by rw [e_]; decide
      have n8_ : ¬ (hf xs 0 0 &&& 63) = 8 := by rw [e_]; decide
      have n9_ : ¬ (hf xs 0 0 &&& 63) = 9 := by rw [e_]; decide
      have n10_ : ¬ (hf xs 0 0 &&& 63) = 10 := by rw [e_]; decide
      refine ev_tabIn 547 rfl (by rw [e_]; decide) (by rw [e_]; decide) (by rw [e_]; rfl) (by decide) ?_
      exact w_c_pitch xs
    · have n0_ : ¬ (hf xs 0 0 &&& 63) = 0 := by rw [e_]; decide
      have n1_ : ¬ (hf xs 0 0 &&& 63) = 1 := by rw [e_]; decide
      have n2_ : ¬ (hf xs 0 0 &&& 63) = 2 := by rw [e_]; decide
      have n3_ : ¬ (hf xs 0 0 &&& 63) = 3 := by rw [e_]; decide
      have n4_ : ¬ (hf xs 0 0 &&& 63) = 4 := by rw [e_]; decide
      have n5_ : ¬ (hf xs 0 0 &&& 63) = 5 := by rw [e_]; decide
      have n6_ : ¬ (hf xs 0 0 &&& 63) = 6 := by rw [e_]; decide
      have n7_ : ¬ (hf xs 0 0 &&& 63) = 7 := by rw [e_]; decide
      have n8_ : ¬ (hf xs 0 0 &&& 63) = 8 := by rw [e_]; decide
      have n9_ : ¬ (hf xs 0 0 &&& 63) = 9 := by rw [e_]; decide
      have n10_ : ¬ (hf xs 0 0 &&& 63) = 10 := by rw [e_]; decide
      have n11_ : ¬ (hf xs 0 0 &&& 63) = 11 := by rw [e_]; decide
      refine ev_tabIn 580 rfl (by rw [e_]; decide) (by rw [e_]; decide) (by rw [e_]; rfl) (by decide) ?_
      exact w_c_holds xs
    · have n0_ : ¬ (hf xs 0 0 &&& 63) = 0 := by rw [e_]; decide
      have n1_ : ¬ (hf xs 0 0 &&& 63) = 1 := by rw [e_]; decide
      have n2_ : ¬ (hf xs 0 0 &&& 63) = 2 := by rw [e_]; decide
      have n3_ : ¬ (hf xs 0 0 &&& 63) = 3 := by rw [e_]; decide
      have n4_ : ¬ (hf xs 0 0 &&& 63) = 4 := by rw [e_]; decide
      have n5_ : ¬ (hf xs 0 0 &&& 63) = 5 := by rw [e_]; decide
      have n6_ : ¬ (hf xs 0 0 &&& 63) = 6 := by rw [e_]; decide
      have n7_ : ¬ (hf xs 0 0 &&& 63) = 7 := by rw [e_]; decide
      have n8_ : ¬ (hf xs 0 0 &&& 63) = 8 := by rw [e_]; decide
      have n9_ : ¬ (hf xs 0 0 &&& 63) = 9 := by rw [e_]; decide
      have n10_ : ¬ (hf xs 0 0 &&& 63) = 10 := by rw [e_]; decide
      have n11_ : ¬ (hf xs 0 0 &&& 63) = 11 := by rw [e_]; decide
      have n12_ : ¬ (hf xs 0 0 &&& 63) = 12 := by rw [e_]; decide
      refine ev_tabIn 613 rfl (by rw [e_]; decide) (by rw [e_]; decide) (by rw [e_]; rfl) (by decide) ?_
      exact w_c_tuneAll xs
    · have n0_ : ¬ (hf xs 0 0 &&& 63) = 0 := by rw [e_]; decide
      have n1_ : ¬ (hf xs 0 0 &&& 63) = 1 := by rw [e_]; decide
      have n2_ : ¬ (hf xs 0 0 &&& 63) = 2 := by rw [e_]; decide
      have n3_ : ¬ (hf xs 0 0 &&& 63) = 3 := by rw [e_]; decide
      have n4_ : ¬ (hf xs 0 0 &&& 63) = 4 := by rw [e_]; decide
      have n5_ : ¬ (hf xs 0 0 &&& 63) = 5 := by rw [e_]; decide
      have n6_ : ¬ (hf xs 0 0 &&& 63) = 6 := by rw [e_]; decide
      have n7_ : ¬ (hf xs 0 0 &&& 63) = 7 := by rw [e_]; decide
      have n8_ : ¬ (hf xs 0 0 &&& 63) = 8 := by rw [e_]; decide
      have n9_ : ¬ (hf xs 0 0 &&& 63) = 9 := by rw [e_]; decide
      have n10_ : ¬ (hf xs 0 0 &&& 63) = 10 := by rw [e_]; decide
      have n11_ : ¬ (hf xs 0 0 &&& 63) = 11 := by rw [e_]; decide
      have n12_ : ¬ (hf xs 0 0 &&& 63) = 12 := by rw [e_]; decide
      have n13_ : ¬ (hf xs 0 0 &&& 63) = 13 := by rw [e_]; decide
      refine ev_tabIn 636 rfl (by rw [e_]; decide) (by rw [e_]; decide) (by rw [e_]; rfl) (by decide) ?_
      exact w_c_agree xs
    · have n0_ : ¬ (hf xs 0 0 &&& 63) = 0 := by rw [e_]; decide
      have n1_ : ¬ (hf xs 0 0 &&& 63) = 1 := by rw [e_]; decide
      have n2_ : ¬ (hf xs 0 0 &&& 63) = 2 := by rw [e_]; decide
      have n3_ : ¬ (hf xs 0 0 &&& 63) = 3 := by rw [e_]; decide
      have n4_ : ¬ (hf xs 0 0 &&& 63) = 4 := by rw [e_]; decide
      have n5_ : ¬ (hf xs 0 0 &&& 63) = 5 := by rw [e_]; decide
      have n6_ : ¬ (hf xs 0 0 &&& 63) = 6 := by rw [e_]; decide
      have n7_ : ¬ (hf xs 0 0 &&& 63) = 7 := by rw [e_]; decide
      have n8_ : ¬ (hf xs 0 0 &&& 63) = 8 := by rw [e_]; decide
      have n9_ : ¬ (hf xs 0 0 &&& 63) = 9 := by rw [e_]; decide
      have n10_ : ¬ (hf xs 0 0 &&& 63) = 10 := by rw [e_]; decide
      have n11_ : ¬ (hf xs 0 0 &&& 63) = 11 := by rw [e_]; decide
      have n12_ : ¬ (hf xs 0 0 &&& 63) = 12 := by rw [e_]; decide
      have n13_ : ¬ (hf xs 0 0 &&& 63) = 13 := by rw [e_]; decide
      have n14_ : ¬ (hf xs 0 0 &&& 63) = 14 := by rw [e_]; decide
      refine ev_tabIn 659 rfl (by rw [e_]; decide) (by rw [e_]; decide) (by rw [e_]; rfl) (by decide) ?_
      exact w_c_feed xs
    · have n0_ : ¬ (hf xs 0 0 &&& 63) = 0 := by rw [e_]; decide
      have n1_ : ¬ (hf xs 0 0 &&& 63) = 1 := by rw [e_]; decide
      have n2_ : ¬ (hf xs 0 0 &&& 63) = 2 := by rw [e_]; decide
      have n3_ : ¬ (hf xs 0 0 &&& 63) = 3 := by rw [e_]; decide
      have n4_ : ¬ (hf xs 0 0 &&& 63) = 4 := by rw [e_]; decide
      have n5_ : ¬ (hf xs 0 0 &&& 63) = 5 := by rw [e_]; decide
      have n6_ : ¬ (hf xs 0 0 &&& 63) = 6 := by rw [e_]; decide
      have n7_ : ¬ (hf xs 0 0 &&& 63) = 7 := by rw [e_]; decide
      have n8_ : ¬ (hf xs 0 0 &&& 63) = 8 := by rw [e_]; decide
      have n9_ : ¬ (hf xs 0 0 &&& 63) = 9 := by rw [e_]; decide
      have n10_ : ¬ (hf xs 0 0 &&& 63) = 10 := by rw [e_]; decide
      have n11_ : ¬ (hf xs 0 0 &&& 63) = 11 := by rw [e_]; decide
      have n12_ : ¬ (hf xs 0 0 &&& 63) = 12 := by rw [e_]; decide
      have n13_ : ¬ (hf xs 0 0 &&& 63) = 13 := by rw [e_]; decide
      have n14_ : ¬ (hf xs 0 0 &&& 63) = 14 := by rw [e_]; decide
      have n15_ : ¬ (hf xs 0 0 &&& 63) = 15 := by rw [e_]; decide
      refine ev_tabIn 712 rfl (by rw [e_]; decide) (by rw [e_]; decide) (by rw [e_]; rfl) (by decide) ?_
      exact w_c_end xs
    · have n0_ : ¬ (hf xs 0 0 &&& 63) = 0 := by rw [e_]; decide
      have n1_ : ¬ (hf xs 0 0 &&& 63) = 1 := by rw [e_]; decide
      have n2_ : ¬ (hf xs 0 0 &&& 63) = 2 := by rw [e_]; decide
      have n3_ : ¬ (hf xs 0 0 &&& 63) = 3 := by rw [e_]; decide
      have n4_ : ¬ (hf xs 0 0 &&& 63) = 4 := by rw [e_]; decide
      have n5_ : ¬ (hf xs 0 0 &&& 63) = 5 := by rw [e_]; decide
      have n6_ : ¬ (hf xs 0 0 &&& 63) = 6 := by rw [e_]; decide
      have n7_ : ¬ (hf xs 0 0 &&& 63) = 7 := by rw [e_]; decide
      have n8_ : ¬ (hf xs 0 0 &&& 63) = 8 := by rw [e_]; decide
      have n9_ : ¬ (hf xs 0 0 &&& 63) = 9 := by rw [e_]; decide
      have n10_ : ¬ (hf xs 0 0 &&& 63) = 10 := by rw [e_]; decide
      have n11_ : ¬ (hf xs 0 0 &&& 63) = 11 := by rw [e_]; decide
      have n12_ : ¬ (hf xs 0 0 &&& 63) = 12 := by rw [e_]; decide
      have n13_ : ¬ (hf xs 0 0 &&& 63) = 13 := by rw [e_]; decide
      have n14_ : ¬ (hf xs 0 0 &&& 63) = 14 := by rw [e_]; decide
      have n15_ : ¬ (hf xs 0 0 &&& 63) = 15 := by rw [e_]; decide
      have n16_ : ¬ (hf xs 0 0 &&& 63) = 16 := by rw [e_]; decide
      refine ev_tabIn 735 rfl (by rw [e_]; decide) (by rw [e_]; decide) (by rw [e_]; rfl) (by decide) ?_
      exact w_c_tune xs
    · have n0_ : ¬ (hf xs 0 0 &&& 63) = 0 := by rw [e_]; decide
      have n1_ : ¬ (hf xs 0 0 &&& 63) = 1 := by rw [e_]; decide
      have n2_ : ¬ (hf xs 0 0 &&& 63) = 2 := by rw [e_]; decide
      have n3_ : ¬ (hf xs 0 0 &&& 63) = 3 := by rw [e_]; decide
      have n4_ : ¬ (hf xs 0 0 &&& 63) = 4 := by rw [e_]; decide
      have n5_ : ¬ (hf xs 0 0 &&& 63) = 5 := by rw [e_]; decide
      have n6_ : ¬ (hf xs 0 0 &&& 63) = 6 := by rw [e_]; decide
      have n7_ : ¬ (hf xs 0 0 &&& 63) = 7 := by rw [e_]; decide
      have n8_ : ¬ (hf xs 0 0 &&& 63) = 8 := by rw [e_]; decide
      have n9_ : ¬ (hf xs 0 0 &&& 63) = 9 := by rw [e_]; decide
      have n10_ : ¬ (hf xs 0 0 &&& 63) = 10 := by rw [e_]; decide
      have n11_ : ¬ (hf xs 0 0 &&& 63) = 11 := by rw [e_]; decide
      have n12_ : ¬ (hf xs 0 0 &&& 63) = 12 := by rw [e_]; decide
      have n13_ : ¬ (hf xs 0 0 &&& 63) = 13 := by rw [e_]; decide
      have n14_ : ¬ (hf xs 0 0 &&& 63) = 14 := by rw [e_]; decide
      have n15_ : ¬ (hf xs 0 0 &&& 63) = 15 := by rw [e_]; decide
      have n16_ : ¬ (hf xs 0 0 &&& 63) = 16 := by rw [e_]; decide
      have n17_ : ¬ (hf xs 0 0 &&& 63) = 17 := by rw [e_]; decide
      refine ev_tabIn 748 rfl (by rw [e_]; decide) (by rw [e_]; decide) (by rw [e_]; rfl) (by decide) ?_
      exact w_c_fault xs
    · have n0_ : ¬ (hf xs 0 0 &&& 63) = 0 := by rw [e_]; decide
      have n1_ : ¬ (hf xs 0 0 &&& 63) = 1 := by rw [e_]; decide
      have n2_ : ¬ (hf xs 0 0 &&& 63) = 2 := by rw [e_]; decide
      have n3_ : ¬ (hf xs 0 0 &&& 63) = 3 := by rw [e_]; decide
      have n4_ : ¬ (hf xs 0 0 &&& 63) = 4 := by rw [e_]; decide
      have n5_ : ¬ (hf xs 0 0 &&& 63) = 5 := by rw [e_]; decide
      have n6_ : ¬ (hf xs 0 0 &&& 63) = 6 := by rw [e_]; decide
      have n7_ : ¬ (hf xs 0 0 &&& 63) = 7 := by rw [e_]; decide
      have n8_ : ¬ (hf xs 0 0 &&& 63) = 8 := by rw [e_]; decide
      have n9_ : ¬ (hf xs 0 0 &&& 63) = 9 := by rw [e_]; decide
      have n10_ : ¬ (hf xs 0 0 &&& 63) = 10 := by rw [e_]; decide
      have n11_ : ¬ (hf xs 0 0 &&& 63) = 11 := by rw [e_]; decide
      have n12_ : ¬ (hf xs 0 0 &&& 63) = 12 := by rw [e_]; decide
      have n13_ : ¬ (hf xs 0 0 &&& 63) = 13 := by rw [e_]; decide
      have n14_ : ¬ (hf xs 0 0 &&& 63) = 14 := by rw [e_]; decide
      have n15_ : ¬ (hf xs 0 0 &&& 63) = 15 := by rw [e_]; decide
      have n16_ : ¬ (hf xs 0 0 &&& 63) = 16 := by rw [e_]; decide
      have n17_ : ¬ (hf xs 0 0 &&& 63) = 17 := by rw [e_]; decide
      have n18_ : ¬ (hf xs 0 0 &&& 63) = 18 := by rw [e_]; decide
      refine ev_tabIn 761 rfl (by rw [e_]; decide) (by rw [e_]; decide) (by rw [e_]; rfl) (by decide) ?_
      exact w_c_tuneOf xs
    · have n0_ : ¬ (hf xs 0 0 &&& 63) = 0 := by rw [e_]; decide
      have n1_ : ¬ (hf xs 0 0 &&& 63) = 1 := by rw [e_]; decide
      have n2_ : ¬ (hf xs 0 0 &&& 63) = 2 := by rw [e_]; decide
      have n3_ : ¬ (hf xs 0 0 &&& 63) = 3 := by rw [e_]; decide
      have n4_ : ¬ (hf xs 0 0 &&& 63) = 4 := by rw [e_]; decide
      have n5_ : ¬ (hf xs 0 0 &&& 63) = 5 := by rw [e_]; decide
      have n6_ : ¬ (hf xs 0 0 &&& 63) = 6 := by rw [e_]; decide
      have n7_ : ¬ (hf xs 0 0 &&& 63) = 7 := by rw [e_]; decide
      have n8_ : ¬ (hf xs 0 0 &&& 63) = 8 := by rw [e_]; decide
      have n9_ : ¬ (hf xs 0 0 &&& 63) = 9 := by rw [e_]; decide
      have n10_ : ¬ (hf xs 0 0 &&& 63) = 10 := by rw [e_]; decide
      have n11_ : ¬ (hf xs 0 0 &&& 63) = 11 := by rw [e_]; decide
      have n12_ : ¬ (hf xs 0 0 &&& 63) = 12 := by rw [e_]; decide
      have n13_ : ¬ (hf xs 0 0 &&& 63) = 13 := by rw [e_]; decide
      have n14_ : ¬ (hf xs 0 0 &&& 63) = 14 := by rw [e_]; decide
      have n15_ : ¬ (hf xs 0 0 &&& 63) = 15 := by rw [e_]; decide
      have n16_ : ¬ (hf xs 0 0 &&& 63) = 16 := by rw [e_]; decide
      have n17_ : ¬ (hf xs 0 0 &&& 63) = 17 := by rw [e_]; decide
      have n18_ : ¬ (hf xs 0 0 &&& 63) = 18 := by rw [e_]; decide
      have n19_ : ¬ (hf xs 0 0 &&& 63) = 19 := by rw [e_]; decide
      refine ev_tabIn 794 rfl (by rw [e_]; decide) (by rw [e_]; decide) (by rw [e_]; rfl) (by decide) ?_
      exact w_c_play xs
    · have n0_ : ¬ (hf xs 0 0 &&& 63) = 0 := by rw [e_]; decide
      have n1_ : ¬ (hf xs 0 0 &&& 63) = 1 := by rw [e_]; decide
      have n2_ : ¬ (hf xs 0 0 &&& 63) = 2 := by rw [e_]; decide
      have n3_ : ¬ (hf xs 0 0 &&& 63) = 3 := by rw [e_]; decide
      have n4_ : ¬ (hf xs 0 0 &&& 63) = 4 := by rw [e_]; decide
      have n5_ : ¬ (hf xs 0 0 &&& 63) = 5 := by rw [e_]; decide
      have n6_ : ¬ (hf xs 0 0 &&& 63) = 6 := by rw [e_]; decide
      have n7_ : ¬ (hf xs 0 0 &&& 63) = 7 := by rw [e_]; decide
      have n8_ : ¬ (hf xs 0 0 &&& 63) = 8 := by rw [e_]; decide
      have n9_ : ¬ (hf xs 0 0 &&& 63) = 9 := by rw [e_]; decide
      have n10_ : ¬ (hf xs 0 0 &&& 63) = 10 := by rw [e_]; decide
      have n11_ : ¬ (hf xs 0 0 &&& 63) = 11 := by rw [e_]; decide
      have n12_ : ¬ (hf xs 0 0 &&& 63) = 12 := by rw [e_]; decide
      have n13_ : ¬ (hf xs 0 0 &&& 63) = 13 := by rw [e_]; decide
      have n14_ : ¬ (hf xs 0 0 &&& 63) = 14 := by rw [e_]; decide
      have n15_ : ¬ (hf xs 0 0 &&& 63) = 15 := by rw [e_]; decide
      have n16_ : ¬ (hf xs 0 0 &&& 63) = 16 := by rw [e_]; decide
      have n17_ : ¬ (hf xs 0 0 &&& 63) = 17 := by rw [e_]; decide
      have n18_ : ¬ (hf xs 0 0 &&& 63) = 18 := by rw [e_]; decide
      have n19_ : ¬ (hf xs 0 0 &&& 63) = 19 := by rw [e_]; decide
      have n20_ : ¬ (hf xs 0 0 &&& 63) = 20 := by rw [e_]; decide
      refine ev_tabIn 827 rfl (by rw [e_]; decide) (by rw [e_]; decide) (by rw [e_]; rfl) (by decide) ?_
      exact w_c_would xs
    · have n0_ : ¬ (hf xs 0 0 &&& 63) = 0 := by rw [e_]; decide
      have n1_ : ¬ (hf xs 0 0 &&& 63) = 1 := by rw [e_]; decide
      have n2_ : ¬ (hf xs 0 0 &&& 63) = 2 := by rw [e_]; decide
      have n3_ : ¬ (hf xs 0 0 &&& 63) = 3 := by rw [e_]; decide
      have n4_ : ¬ (hf xs 0 0 &&& 63) = 4 := by rw [e_]; decide
      have n5_ : ¬ (hf xs 0 0 &&& 63) = 5 := by rw [e_]; decide
      have n6_ : ¬ (hf xs 0 0 &&& 63) = 6 := by rw [e_]; decide
      have n7_ : ¬ (hf xs 0 0 &&& 63) = 7 := by rw [e_]; decide
      have n8_ : ¬ (hf xs 0 0 &&& 63) = 8 := by rw [e_]; decide
      have n9_ : ¬ (hf xs 0 0 &&& 63) = 9 := by rw [e_]; decide
      have n10_ : ¬ (hf xs 0 0 &&& 63) = 10 := by rw [e_]; decide
      have n11_ : ¬ (hf xs 0 0 &&& 63) = 11 := by rw [e_]; decide
      have n12_ : ¬ (hf xs 0 0 &&& 63) = 12 := by rw [e_]; decide
      have n13_ : ¬ (hf xs 0 0 &&& 63) = 13 := by rw [e_]; decide
      have n14_ : ¬ (hf xs 0 0 &&& 63) = 14 := by rw [e_]; decide
      have n15_ : ¬ (hf xs 0 0 &&& 63) = 15 := by rw [e_]; decide
      have n16_ : ¬ (hf xs 0 0 &&& 63) = 16 := by rw [e_]; decide
      have n17_ : ¬ (hf xs 0 0 &&& 63) = 17 := by rw [e_]; decide
      have n18_ : ¬ (hf xs 0 0 &&& 63) = 18 := by rw [e_]; decide
      have n19_ : ¬ (hf xs 0 0 &&& 63) = 19 := by rw [e_]; decide
      have n20_ : ¬ (hf xs 0 0 &&& 63) = 20 := by rw [e_]; decide
      have n21_ : ¬ (hf xs 0 0 &&& 63) = 21 := by rw [e_]; decide
      refine ev_tabIn 860 rfl (by rw [e_]; decide) (by rw [e_]; decide) (by rw [e_]; rfl) (by decide) ?_
      exact w_c_key xs
    · have n0_ : ¬ (hf xs 0 0 &&& 63) = 0 := by rw [e_]; decide
      have n1_ : ¬ (hf xs 0 0 &&& 63) = 1 := by rw [e_]; decide
      have n2_ : ¬ (hf xs 0 0 &&& 63) = 2 := by rw [e_]; decide
      have n3_ : ¬ (hf xs 0 0 &&& 63) = 3 := by rw [e_]; decide
      have n4_ : ¬ (hf xs 0 0 &&& 63) = 4 := by rw [e_]; decide
      have n5_ : ¬ (hf xs 0 0 &&& 63) = 5 := by rw [e_]; decide
      have n6_ : ¬ (hf xs 0 0 &&& 63) = 6 := by rw [e_]; decide
      have n7_ : ¬ (hf xs 0 0 &&& 63) = 7 := by rw [e_]; decide
      have n8_ : ¬ (hf xs 0 0 &&& 63) = 8 := by rw [e_]; decide
      have n9_ : ¬ (hf xs 0 0 &&& 63) = 9 := by rw [e_]; decide
      have n10_ : ¬ (hf xs 0 0 &&& 63) = 10 := by rw [e_]; decide
      have n11_ : ¬ (hf xs 0 0 &&& 63) = 11 := by rw [e_]; decide
      have n12_ : ¬ (hf xs 0 0 &&& 63) = 12 := by rw [e_]; decide
      have n13_ : ¬ (hf xs 0 0 &&& 63) = 13 := by rw [e_]; decide
      have n14_ : ¬ (hf xs 0 0 &&& 63) = 14 := by rw [e_]; decide
      have n15_ : ¬ (hf xs 0 0 &&& 63) = 15 := by rw [e_]; decide
      have n16_ : ¬ (hf xs 0 0 &&& 63) = 16 := by rw [e_]; decide
      have n17_ : ¬ (hf xs 0 0 &&& 63) = 17 := by rw [e_]; decide
      have n18_ : ¬ (hf xs 0 0 &&& 63) = 18 := by rw [e_]; decide
      have n19_ : ¬ (hf xs 0 0 &&& 63) = 19 := by rw [e_]; decide
      have n20_ : ¬ (hf xs 0 0 &&& 63) = 20 := by rw [e_]; decide
      have n21_ : ¬ (hf xs 0 0 &&& 63) = 21 := by rw [e_]; decide
      have n22_ : ¬ (hf xs 0 0 &&& 63) = 22 := by rw [e_]; decide
      refine ev_tabIn 893 rfl (by rw [e_]; decide) (by rw [e_]; decide) (by rw [e_]; rfl) (by decide) ?_
      exact w_c_set xs
    · have n0_ : ¬ (hf xs 0 0 &&& 63) = 0 := by rw [e_]; decide
      have n1_ : ¬ (hf xs 0 0 &&& 63) = 1 := by rw [e_]; decide
      have n2_ : ¬ (hf xs 0 0 &&& 63) = 2 := by rw [e_]; decide
      have n3_ : ¬ (hf xs 0 0 &&& 63) = 3 := by rw [e_]; decide
      have n4_ : ¬ (hf xs 0 0 &&& 63) = 4 := by rw [e_]; decide
      have n5_ : ¬ (hf xs 0 0 &&& 63) = 5 := by rw [e_]; decide
      have n6_ : ¬ (hf xs 0 0 &&& 63) = 6 := by rw [e_]; decide
      have n7_ : ¬ (hf xs 0 0 &&& 63) = 7 := by rw [e_]; decide
      have n8_ : ¬ (hf xs 0 0 &&& 63) = 8 := by rw [e_]; decide
      have n9_ : ¬ (hf xs 0 0 &&& 63) = 9 := by rw [e_]; decide
      have n10_ : ¬ (hf xs 0 0 &&& 63) = 10 := by rw [e_]; decide
      have n11_ : ¬ (hf xs 0 0 &&& 63) = 11 := by rw [e_]; decide
      have n12_ : ¬ (hf xs 0 0 &&& 63) = 12 := by rw [e_]; decide
      have n13_ : ¬ (hf xs 0 0 &&& 63) = 13 := by rw [e_]; decide
      have n14_ : ¬ (hf xs 0 0 &&& 63) = 14 := by rw [e_]; decide
      have n15_ : ¬ (hf xs 0 0 &&& 63) = 15 := by rw [e_]; decide
      have n16_ : ¬ (hf xs 0 0 &&& 63) = 16 := by rw [e_]; decide
      have n17_ : ¬ (hf xs 0 0 &&& 63) = 17 := by rw [e_]; decide
      have n18_ : ¬ (hf xs 0 0 &&& 63) = 18 := by rw [e_]; decide
      have n19_ : ¬ (hf xs 0 0 &&& 63) = 19 := by rw [e_]; decide
      have n20_ : ¬ (hf xs 0 0 &&& 63) = 20 := by rw [e_]; decide
      have n21_ : ¬ (hf xs 0 0 &&& 63) = 21 := by rw [e_]; decide
      have n22_ : ¬ (hf xs 0 0 &&& 63) = 22 := by rw [e_]; decide
      have n23_ : ¬ (hf xs 0 0 &&& 63) = 23 := by rw [e_]; decide
      refine ev_tabIn 956 rfl (by rw [e_]; decide) (by rw [e_]; decide) (by rw [e_]; rfl) (by decide) ?_
      exact w_c_blame xs
    · have n0_ : ¬ (hf xs 0 0 &&& 63) = 0 := by rw [e_]; decide
      have n1_ : ¬ (hf xs 0 0 &&& 63) = 1 := by rw [e_]; decide
      have n2_ : ¬ (hf xs 0 0 &&& 63) = 2 := by rw [e_]; decide
      have n3_ : ¬ (hf xs 0 0 &&& 63) = 3 := by rw [e_]; decide
      have n4_ : ¬ (hf xs 0 0 &&& 63) = 4 := by rw [e_]; decide
      have n5_ : ¬ (hf xs 0 0 &&& 63) = 5 := by rw [e_]; decide
      have n6_ : ¬ (hf xs 0 0 &&& 63) = 6 := by rw [e_]; decide
      have n7_ : ¬ (hf xs 0 0 &&& 63) = 7 := by rw [e_]; decide
      have n8_ : ¬ (hf xs 0 0 &&& 63) = 8 := by rw [e_]; decide
      have n9_ : ¬ (hf xs 0 0 &&& 63) = 9 := by rw [e_]; decide
      have n10_ : ¬ (hf xs 0 0 &&& 63) = 10 := by rw [e_]; decide
      have n11_ : ¬ (hf xs 0 0 &&& 63) = 11 := by rw [e_]; decide
      have n12_ : ¬ (hf xs 0 0 &&& 63) = 12 := by rw [e_]; decide
      have n13_ : ¬ (hf xs 0 0 &&& 63) = 13 := by rw [e_]; decide
      have n14_ : ¬ (hf xs 0 0 &&& 63) = 14 := by rw [e_]; decide
      have n15_ : ¬ (hf xs 0 0 &&& 63) = 15 := by rw [e_]; decide
      have n16_ : ¬ (hf xs 0 0 &&& 63) = 16 := by rw [e_]; decide
      have n17_ : ¬ (hf xs 0 0 &&& 63) = 17 := by rw [e_]; decide
      have n18_ : ¬ (hf xs 0 0 &&& 63) = 18 := by rw [e_]; decide
      have n19_ : ¬ (hf xs 0 0 &&& 63) = 19 := by rw [e_]; decide
      have n20_ : ¬ (hf xs 0 0 &&& 63) = 20 := by rw [e_]; decide
      have n21_ : ¬ (hf xs 0 0 &&& 63) = 21 := by rw [e_]; decide
      have n22_ : ¬ (hf xs 0 0 &&& 63) = 22 := by rw [e_]; decide
      have n23_ : ¬ (hf xs 0 0 &&& 63) = 23 := by rw [e_]; decide
      have n24_ : ¬ (hf xs 0 0 &&& 63) = 24 := by rw [e_]; decide
      refine ev_tabIn 1043 rfl (by rw [e_]; decide) (by rw [e_]; decide) (by rw [e_]; rfl) (by decide) ?_
      exact w_c_boat xs
    · have n0_ : ¬ (hf xs 0 0 &&& 63) = 0 := by rw [e_]; decide
      have n1_ : ¬ (hf xs 0 0 &&& 63) = 1 := by rw [e_]; decide
      have n2_ : ¬ (hf xs 0 0 &&& 63) = 2 := by rw [e_]; decide
      have n3_ : ¬ (hf xs 0 0 &&& 63) = 3 := by rw [e_]; decide
      have n4_ : ¬ (hf xs 0 0 &&& 63) = 4 := by rw [e_]; decide
      have n5_ : ¬ (hf xs 0 0 &&& 63) = 5 := by rw [e_]; decide
      have n6_ : ¬ (hf xs 0 0 &&& 63) = 6 := by rw [e_]; decide
      have n7_ : ¬ (hf xs 0 0 &&& 63) = 7 := by rw [e_]; decide
      have n8_ : ¬ (hf xs 0 0 &&& 63) = 8 := by rw [e_]; decide
      have n9_ : ¬ (hf xs 0 0 &&& 63) = 9 := by rw [e_]; decide
      have n10_ : ¬ (hf xs 0 0 &&& 63) = 10 := by rw [e_]; decide
      have n11_ : ¬ (hf xs 0 0 &&& 63) = 11 := by rw [e_]; decide
      have n12_ : ¬ (hf xs 0 0 &&& 63) = 12 := by rw [e_]; decide
      have n13_ : ¬ (hf xs 0 0 &&& 63) = 13 := by rw [e_]; decide
      have n14_ : ¬ (hf xs 0 0 &&& 63) = 14 := by rw [e_]; decide
      have n15_ : ¬ (hf xs 0 0 &&& 63) = 15 := by rw [e_]; decide
      have n16_ : ¬ (hf xs 0 0 &&& 63) = 16 := by rw [e_]; decide
      have n17_ : ¬ (hf xs 0 0 &&& 63) = 17 := by rw [e_]; decide
      have n18_ : ¬ (hf xs 0 0 &&& 63) = 18 := by rw [e_]; decide
      have n19_ : ¬ (hf xs 0 0 &&& 63) = 19 := by rw [e_]; decide
      have n20_ : ¬ (hf xs 0 0 &&& 63) = 20 := by rw [e_]; decide
      have n21_ : ¬ (hf xs 0 0 &&& 63) = 21 := by rw [e_]; decide
      have n22_ : ¬ (hf xs 0 0 &&& 63) = 22 := by rw [e_]; decide
      have n23_ : ¬ (hf xs 0 0 &&& 63) = 23 := by rw [e_]; decide
      have n24_ : ¬ (hf xs 0 0 &&& 63) = 24 := by rw [e_]; decide
      have n25_ : ¬ (hf xs 0 0 &&& 63) = 25 := by rw [e_]; decide
      refine ev_tabIn 1076 rfl (by rw [e_]; decide) (by rw [e_]; decide) (by rw [e_]; rfl) (by decide) ?_
      exact w_c_bend xs
    · have n0_ : ¬ (hf xs 0 0 &&& 63) = 0 := by rw [e_]; decide
      have n1_ : ¬ (hf xs 0 0 &&& 63) = 1 := by rw [e_]; decide
      have n2_ : ¬ (hf xs 0 0 &&& 63) = 2 := by rw [e_]; decide
      have n3_ : ¬ (hf xs 0 0 &&& 63) = 3 := by rw [e_]; decide
      have n4_ : ¬ (hf xs 0 0 &&& 63) = 4 := by rw [e_]; decide
      have n5_ : ¬ (hf xs 0 0 &&& 63) = 5 := by rw [e_]; decide
      have n6_ : ¬ (hf xs 0 0 &&& 63) = 6 := by rw [e_]; decide
      have n7_ : ¬ (hf xs 0 0 &&& 63) = 7 := by rw [e_]; decide
      have n8_ : ¬ (hf xs 0 0 &&& 63) = 8 := by rw [e_]; decide
      have n9_ : ¬ (hf xs 0 0 &&& 63) = 9 := by rw [e_]; decide
      have n10_ : ¬ (hf xs 0 0 &&& 63) = 10 := by rw [e_]; decide
      have n11_ : ¬ (hf xs 0 0 &&& 63) = 11 := by rw [e_]; decide
      have n12_ : ¬ (hf xs 0 0 &&& 63) = 12 := by rw [e_]; decide
      have n13_ : ¬ (hf xs 0 0 &&& 63) = 13 := by rw [e_]; decide
      have n14_ : ¬ (hf xs 0 0 &&& 63) = 14 := by rw [e_]; decide
      have n15_ : ¬ (hf xs 0 0 &&& 63) = 15 := by rw [e_]; decide
      have n16_ : ¬ (hf xs 0 0 &&& 63) = 16 := by rw [e_]; decide
      have n17_ : ¬ (hf xs 0 0 &&& 63) = 17 := by rw [e_]; decide
      have n18_ : ¬ (hf xs 0 0 &&& 63) = 18 := by rw [e_]; decide
      have n19_ : ¬ (hf xs 0 0 &&& 63) = 19 := by rw [e_]; decide
      have n20_ : ¬ (hf xs 0 0 &&& 63) = 20 := by rw [e_]; decide
      have n21_ : ¬ (hf xs 0 0 &&& 63) = 21 := by rw [e_]; decide
      have n22_ : ¬ (hf xs 0 0 &&& 63) = 22 := by rw [e_]; decide
      have n23_ : ¬ (hf xs 0 0 &&& 63) = 23 := by rw [e_]; decide
      have n24_ : ¬ (hf xs 0 0 &&& 63) = 24 := by rw [e_]; decide
      have n25_ : ¬ (hf xs 0 0 &&& 63) = 25 := by rw [e_]; decide
      have n26_ : ¬ (hf xs 0 0 &&& 63) = 26 := by rw [e_]; decide
      refine ev_tabIn 1109 rfl (by rw [e_]; decide) (by rw [e_]; decide) (by rw [e_]; rfl) (by decide) ?_
      exact w_c_speed xs
    · have n0_ : ¬ (hf xs 0 0 &&& 63) = 0 := by rw [e_]; decide
      have n1_ : ¬ (hf xs 0 0 &&& 63) = 1 := by rw [e_]; decide
      have n2_ : ¬ (hf xs 0 0 &&& 63) = 2 := by rw [e_]; decide
      have n3_ : ¬ (hf xs 0 0 &&& 63) = 3 := by rw [e_]; decide
      have n4_ : ¬ (hf xs 0 0 &&& 63) = 4 := by rw [e_]; decide
      have n5_ : ¬ (hf xs 0 0 &&& 63) = 5 := by rw [e_]; decide
      have n6_ : ¬ (hf xs 0 0 &&& 63) = 6 := by rw [e_]; decide
      have n7_ : ¬ (hf xs 0 0 &&& 63) = 7 := by rw [e_]; decide
      have n8_ : ¬ (hf xs 0 0 &&& 63) = 8 := by rw [e_]; decide
      have n9_ : ¬ (hf xs 0 0 &&& 63) = 9 := by rw [e_]; decide
      have n10_ : ¬ (hf xs 0 0 &&& 63) = 10 := by rw [e_]; decide
      have n11_ : ¬ (hf xs 0 0 &&& 63) = 11 := by rw [e_]; decide
      have n12_ : ¬ (hf xs 0 0 &&& 63) = 12 := by rw [e_]; decide
      have n13_ : ¬ (hf xs 0 0 &&& 63) = 13 := by rw [e_]; decide
      have n14_ : ¬ (hf xs 0 0 &&& 63) = 14 := by rw [e_]; decide
      have n15_ : ¬ (hf xs 0 0 &&& 63) = 15 := by rw [e_]; decide
      have n16_ : ¬ (hf xs 0 0 &&& 63) = 16 := by rw [e_]; decide
      have n17_ : ¬ (hf xs 0 0 &&& 63) = 17 := by rw [e_]; decide
      have n18_ : ¬ (hf xs 0 0 &&& 63) = 18 := by rw [e_]; decide
      have n19_ : ¬ (hf xs 0 0 &&& 63) = 19 := by rw [e_]; decide
      have n20_ : ¬ (hf xs 0 0 &&& 63) = 20 := by rw [e_]; decide
      have n21_ : ¬ (hf xs 0 0 &&& 63) = 21 := by rw [e_]; decide
      have n22_ : ¬ (hf xs 0 0 &&& 63) = 22 := by rw [e_]; decide
      have n23_ : ¬ (hf xs 0 0 &&& 63) = 23 := by rw [e_]; decide
      have n24_ : ¬ (hf xs 0 0 &&& 63) = 24 := by rw [e_]; decide
      have n25_ : ¬ (hf xs 0 0 &&& 63) = 25 := by rw [e_]; decide
      have n26_ : ¬ (hf xs 0 0 &&& 63) = 26 := by rw [e_]; decide
      have n27_ : ¬ (hf xs 0 0 &&& 63) = 27 := by rw [e_]; decide
      refine ev_tabIn 1132 rfl (by rw [e_]; decide) (by rw [e_]; decide) (by rw [e_]; rfl) (by decide) ?_
      exact w_c_far xs
    · have n0_ : ¬ (hf xs 0 0 &&& 63) = 0 := by rw [e_]; decide
      have n1_ : ¬ (hf xs 0 0 &&& 63) = 1 := by rw [e_]; decide
      have n2_ : ¬ (hf xs 0 0 &&& 63) = 2 := by rw [e_]; decide
      have n3_ : ¬ (hf xs 0 0 &&& 63) = 3 := by rw [e_]; decide
      have n4_ : ¬ (hf xs 0 0 &&& 63) = 4 := by rw [e_]; decide
      have n5_ : ¬ (hf xs 0 0 &&& 63) = 5 := by rw [e_]; decide
      have n6_ : ¬ (hf xs 0 0 &&& 63) = 6 := by rw [e_]; decide
      have n7_ : ¬ (hf xs 0 0 &&& 63) = 7 := by rw [e_]; decide
      have n8_ : ¬ (hf xs 0 0 &&& 63) = 8 := by rw [e_]; decide
      have n9_ : ¬ (hf xs 0 0 &&& 63) = 9 := by rw [e_]; decide
      have n10_ : ¬ (hf xs 0 0 &&& 63) = 10 := by rw [e_]; decide
      have n11_ : ¬ (hf xs 0 0 &&& 63) = 11 := by rw [e_]; decide
      have n12_ : ¬ (hf xs 0 0 &&& 63) = 12 := by rw [e_]; decide
      have n13_ : ¬ (hf xs 0 0 &&& 63) = 13 := by rw [e_]; decide
      have n14_ : ¬ (hf xs 0 0 &&& 63) = 14 := by rw [e_]; decide
      have n15_ : ¬ (hf xs 0 0 &&& 63) = 15 := by rw [e_]; decide
      have n16_ : ¬ (hf xs 0 0 &&& 63) = 16 := by rw [e_]; decide
      have n17_ : ¬ (hf xs 0 0 &&& 63) = 17 := by rw [e_]; decide
      have n18_ : ¬ (hf xs 0 0 &&& 63) = 18 := by rw [e_]; decide
      have n19_ : ¬ (hf xs 0 0 &&& 63) = 19 := by rw [e_]; decide
      have n20_ : ¬ (hf xs 0 0 &&& 63) = 20 := by rw [e_]; decide
      have n21_ : ¬ (hf xs 0 0 &&& 63) = 21 := by rw [e_]; decide
      have n22_ : ¬ (hf xs 0 0 &&& 63) = 22 := by rw [e_]; decide
      have n23_ : ¬ (hf xs 0 0 &&& 63) = 23 := by rw [e_]; decide
      have n24_ : ¬ (hf xs 0 0 &&& 63) = 24 := by rw [e_]; decide
      have n25_ : ¬ (hf xs 0 0 &&& 63) = 25 := by rw [e_]; decide
      have n26_ : ¬ (hf xs 0 0 &&& 63) = 26 := by rw [e_]; decide
      have n27_ : ¬ (hf xs 0 0 &&& 63) = 27 := by rw [e_]; decide
      have n28_ : ¬ (hf xs 0 0 &&& 63) = 28 := by rw [e_]; decide
      refine ev_tabIn 1165 rfl (by rw [e_]; decide) (by rw [e_]; decide) (by rw [e_]; rfl) (by decide) ?_
      exact w_c_heard xs
    · have n0_ : ¬ (hf xs 0 0 &&& 63) = 0 := by rw [e_]; decide
      have n1_ : ¬ (hf xs 0 0 &&& 63) = 1 := by rw [e_]; decide
      have n2_ : ¬ (hf xs 0 0 &&& 63) = 2 := by rw [e_]; decide
      have n3_ : ¬ (hf xs 0 0 &&& 63) = 3 := by rw [e_]; decide
      have n4_ : ¬ (hf xs 0 0 &&& 63) = 4 := by rw [e_]; decide
      have n5_ : ¬ (hf xs 0 0 &&& 63) = 5 := by rw [e_]; decide
      have n6_ : ¬ (hf xs 0 0 &&& 63) = 6 := by rw [e_]; decide
      have n7_ : ¬ (hf xs 0 0 &&& 63) = 7 := by rw [e_]; decide
      have n8_ : ¬ (hf xs 0 0 &&& 63) = 8 := by rw [e_]; decide
      have n9_ : ¬ (hf xs 0 0 &&& 63) = 9 := by rw [e_]; decide
      have n10_ : ¬ (hf xs 0 0 &&& 63) = 10 := by rw [e_]; decide
      have n11_ : ¬ (hf xs 0 0 &&& 63) = 11 := by rw [e_]; decide
      have n12_ : ¬ (hf xs 0 0 &&& 63) = 12 := by rw [e_]; decide
      have n13_ : ¬ (hf xs 0 0 &&& 63) = 13 := by rw [e_]; decide
      have n14_ : ¬ (hf xs 0 0 &&& 63) = 14 := by rw [e_]; decide
      have n15_ : ¬ (hf xs 0 0 &&& 63) = 15 := by rw [e_]; decide
      have n16_ : ¬ (hf xs 0 0 &&& 63) = 16 := by rw [e_]; decide
      have n17_ : ¬ (hf xs 0 0 &&& 63) = 17 := by rw [e_]; decide
      have n18_ : ¬ (hf xs 0 0 &&& 63) = 18 := by rw [e_]; decide
      have n19_ : ¬ (hf xs 0 0 &&& 63) = 19 := by rw [e_]; decide
      have n20_ : ¬ (hf xs 0 0 &&& 63) = 20 := by rw [e_]; decide
      have n21_ : ¬ (hf xs 0 0 &&& 63) = 21 := by rw [e_]; decide
      have n22_ : ¬ (hf xs 0 0 &&& 63) = 22 := by rw [e_]; decide
      have n23_ : ¬ (hf xs 0 0 &&& 63) = 23 := by rw [e_]; decide
      have n24_ : ¬ (hf xs 0 0 &&& 63) = 24 := by rw [e_]; decide
      have n25_ : ¬ (hf xs 0 0 &&& 63) = 25 := by rw [e_]; decide
      have n26_ : ¬ (hf xs 0 0 &&& 63) = 26 := by rw [e_]; decide
      have n27_ : ¬ (hf xs 0 0 &&& 63) = 27 := by rw [e_]; decide
      have n28_ : ¬ (hf xs 0 0 &&& 63) = 28 := by rw [e_]; decide
      have n29_ : ¬ (hf xs 0 0 &&& 63) = 29 := by rw [e_]; decide
      refine ev_tabIn 1208 rfl (by rw [e_]; decide) (by rw [e_]; decide) (by rw [e_]; rfl) (by decide) ?_
      exact w_c_step xs
    · have n0_ : ¬ (hf xs 0 0 &&& 63) = 0 := by rw [e_]; decide
      have n1_ : ¬ (hf xs 0 0 &&& 63) = 1 := by rw [e_]; decide
      have n2_ : ¬ (hf xs 0 0 &&& 63) = 2 := by rw [e_]; decide
      have n3_ : ¬ (hf xs 0 0 &&& 63) = 3 := by rw [e_]; decide
      have n4_ : ¬ (hf xs 0 0 &&& 63) = 4 := by rw [e_]; decide
      have n5_ : ¬ (hf xs 0 0 &&& 63) = 5 := by rw [e_]; decide
      have n6_ : ¬ (hf xs 0 0 &&& 63) = 6 := by rw [e_]; decide
      have n7_ : ¬ (hf xs 0 0 &&& 63) = 7 := by rw [e_]; decide
      have n8_ : ¬ (hf xs 0 0 &&& 63) = 8 := by rw [e_]; decide
      have n9_ : ¬ (hf xs 0 0 &&& 63) = 9 := by rw [e_]; decide
      have n10_ : ¬ (hf xs 0 0 &&& 63) = 10 := by rw [e_]; decide
      have n11_ : ¬ (hf xs 0 0 &&& 63) = 11 := by rw [e_]; decide
      have n12_ : ¬ (hf xs 0 0 &&& 63) = 12 := by rw [e_]; decide
      have n13_ : ¬ (hf xs 0 0 &&& 63) = 13 := by rw [e_]; decide
      have n14_ : ¬ (hf xs 0 0 &&& 63) = 14 := by rw [e_]; decide
      have n15_ : ¬ (hf xs 0 0 &&& 63) = 15 := by rw [e_]; decide
      have n16_ : ¬ (hf xs 0 0 &&& 63) = 16 := by rw [e_]; decide
      have n17_ : ¬ (hf xs 0 0 &&& 63) = 17 := by rw [e_]; decide
      have n18_ : ¬ (hf xs 0 0 &&& 63) = 18 := by rw [e_]; decide
      have n19_ : ¬ (hf xs 0 0 &&& 63) = 19 := by rw [e_]; decide
      have n20_ : ¬ (hf xs 0 0 &&& 63) = 20 := by rw [e_]; decide
      have n21_ : ¬ (hf xs 0 0 &&& 63) = 21 := by rw [e_]; decide
      have n22_ : ¬ (hf xs 0 0 &&& 63) = 22 := by rw [e_]; decide
      have n23_ : ¬ (hf xs 0 0 &&& 63) = 23 := by rw [e_]; decide
      have n24_ : ¬ (hf xs 0 0 &&& 63) = 24 := by rw [e_]; decide
      have n25_ : ¬ (hf xs 0 0 &&& 63) = 25 := by rw [e_]; decide
      have n26_ : ¬ (hf xs 0 0 &&& 63) = 26 := by rw [e_]; decide
      have n27_ : ¬ (hf xs 0 0 &&& 63) = 27 := by rw [e_]; decide
      have n28_ : ¬ (hf xs 0 0 &&& 63) = 28 := by rw [e_]; decide
      have n29_ : ¬ (hf xs 0 0 &&& 63) = 29 := by rw [e_]; decide
      have n30_ : ¬ (hf xs 0 0 &&& 63) = 30 := by rw [e_]; decide
      refine ev_tabIn 1251 rfl (by rw [e_]; decide) (by rw [e_]; decide) (by rw [e_]; rfl) (by decide) ?_
      exact w_c_undo xs
    · have n0_ : ¬ (hf xs 0 0 &&& 63) = 0 := by rw [e_]; decide
      have n1_ : ¬ (hf xs 0 0 &&& 63) = 1 := by rw [e_]; decide
      have n2_ : ¬ (hf xs 0 0 &&& 63) = 2 := by rw [e_]; decide
      have n3_ : ¬ (hf xs 0 0 &&& 63) = 3 := by rw [e_]; decide
      have n4_ : ¬ (hf xs 0 0 &&& 63) = 4 := by rw [e_]; decide
      have n5_ : ¬ (hf xs 0 0 &&& 63) = 5 := by rw [e_]; decide
      have n6_ : ¬ (hf xs 0 0 &&& 63) = 6 := by rw [e_]; decide
      have n7_ : ¬ (hf xs 0 0 &&& 63) = 7 := by rw [e_]; decide
      have n8_ : ¬ (hf xs 0 0 &&& 63) = 8 := by rw [e_]; decide
      have n9_ : ¬ (hf xs 0 0 &&& 63) = 9 := by rw [e_]; decide
      have n10_ : ¬ (hf xs 0 0 &&& 63) = 10 := by rw [e_]; decide
      have n11_ : ¬ (hf xs 0 0 &&& 63) = 11 := by rw [e_]; decide
      have n12_ : ¬ (hf xs 0 0 &&& 63) = 12 := by rw [e_]; decide
      have n13_ : ¬ (hf xs 0 0 &&& 63) = 13 := by rw [e_]; decide
      have n14_ : ¬ (hf xs 0 0 &&& 63) = 14 := by rw [e_]; decide
      have n15_ : ¬ (hf xs 0 0 &&& 63) = 15 := by rw [e_]; decide
      have n16_ : ¬ (hf xs 0 0 &&& 63) = 16 := by rw [e_]; decide
      have n17_ : ¬ (hf xs 0 0 &&& 63) = 17 := by rw [e_]; decide
      have n18_ : ¬ (hf xs 0 0 &&& 63) = 18 := by rw [e_]; decide
      have n19_ : ¬ (hf xs 0 0 &&& 63) = 19 := by rw [e_]; decide
      have n20_ : ¬ (hf xs 0 0 &&& 63) = 20 := by rw [e_]; decide
      have n21_ : ¬ (hf xs 0 0 &&& 63) = 21 := by rw [e_]; decide
      have n22_ : ¬ (hf xs 0 0 &&& 63) = 22 := by rw [e_]; decide
      have n23_ : ¬ (hf xs 0 0 &&& 63) = 23 := by rw [e_]; decide
      have n24_ : ¬ (hf xs 0 0 &&& 63) = 24 := by rw [e_]; decide
      have n25_ : ¬ (hf xs 0 0 &&& 63) = 25 := by rw [e_]; decide
      have n26_ : ¬ (hf xs 0 0 &&& 63) = 26 := by rw [e_]; decide
      have n27_ : ¬ (hf xs 0 0 &&& 63) = 27 := by rw [e_]; decide
      have n28_ : ¬ (hf xs 0 0 &&& 63) = 28 := by rw [e_]; decide
      have n29_ : ¬ (hf xs 0 0 &&& 63) = 29 := by rw [e_]; decide
      have n30_ : ¬ (hf xs 0 0 &&& 63) = 30 := by rw [e_]; decide
      have n31_ : ¬ (hf xs 0 0 &&& 63) = 31 := by rw [e_]; decide
      refine ev_tabIn 1264 rfl (by rw [e_]; decide) (by rw [e_]; decide) (by rw [e_]; rfl) (by decide) ?_
      exact w_c_sheet xs
    · have n0_ : ¬ (hf xs 0 0 &&& 63) = 0 := by rw [e_]; decide
      have n1_ : ¬ (hf xs 0 0 &&& 63) = 1 := by rw [e_]; decide
      have n2_ : ¬ (hf xs 0 0 &&& 63) = 2 := by rw [e_]; decide
      have n3_ : ¬ (hf xs 0 0 &&& 63) = 3 := by rw [e_]; decide
      have n4_ : ¬ (hf xs 0 0 &&& 63) = 4 := by rw [e_]; decide
      have n5_ : ¬ (hf xs 0 0 &&& 63) = 5 := by rw [e_]; decide
      have n6_ : ¬ (hf xs 0 0 &&& 63) = 6 := by rw [e_]; decide
      have n7_ : ¬ (hf xs 0 0 &&& 63) = 7 := by rw [e_]; decide
      have n8_ : ¬ (hf xs 0 0 &&& 63) = 8 := by rw [e_]; decide
      have n9_ : ¬ (hf xs 0 0 &&& 63) = 9 := by rw [e_]; decide
      have n10_ : ¬ (hf xs 0 0 &&& 63) = 10 := by rw [e_]; decide
      have n11_ : ¬ (hf xs 0 0 &&& 63) = 11 := by rw [e_]; decide
      have n12_ : ¬ (hf xs 0 0 &&& 63) = 12 := by rw [e_]; decide
      have n13_ : ¬ (hf xs 0 0 &&& 63) = 13 := by rw [e_]; decide
      have n14_ : ¬ (hf xs 0 0 &&& 63) = 14 := by rw [e_]; decide
      have n15_ : ¬ (hf xs 0 0 &&& 63) = 15 := by rw [e_]; decide
      have n16_ : ¬ (hf xs 0 0 &&& 63) = 16 := by rw [e_]; decide
      have n17_ : ¬ (hf xs 0 0 &&& 63) = 17 := by rw [e_]; decide
      have n18_ : ¬ (hf xs 0 0 &&& 63) = 18 := by rw [e_]; decide
      have n19_ : ¬ (hf xs 0 0 &&& 63) = 19 := by rw [e_]; decide
      have n20_ : ¬ (hf xs 0 0 &&& 63) = 20 := by rw [e_]; decide
      have n21_ : ¬ (hf xs 0 0 &&& 63) = 21 := by rw [e_]; decide
      have n22_ : ¬ (hf xs 0 0 &&& 63) = 22 := by rw [e_]; decide
      have n23_ : ¬ (hf xs 0 0 &&& 63) = 23 := by rw [e_]; decide
      have n24_ : ¬ (hf xs 0 0 &&& 63) = 24 := by rw [e_]; decide
      have n25_ : ¬ (hf xs 0 0 &&& 63) = 25 := by rw [e_]; decide
      have n26_ : ¬ (hf xs 0 0 &&& 63) = 26 := by rw [e_]; decide
      have n27_ : ¬ (hf xs 0 0 &&& 63) = 27 := by rw [e_]; decide
      have n28_ : ¬ (hf xs 0 0 &&& 63) = 28 := by rw [e_]; decide
      have n29_ : ¬ (hf xs 0 0 &&& 63) = 29 := by rw [e_]; decide
      have n30_ : ¬ (hf xs 0 0 &&& 63) = 30 := by rw [e_]; decide
      have n31_ : ¬ (hf xs 0 0 &&& 63) = 31 := by rw [e_]; decide
      have n32_ : ¬ (hf xs 0 0 &&& 63) = 32 := by rw [e_]; decide
      refine ev_tabIn 1307 rfl (by rw [e_]; decide) (by rw [e_]; decide) (by rw [e_]; rfl) (by decide) ?_
      exact w_c_lay xs
    · have n0_ : ¬ (hf xs 0 0 &&& 63) = 0 := by rw [e_]; decide
      have n1_ : ¬ (hf xs 0 0 &&& 63) = 1 := by rw [e_]; decide
      have n2_ : ¬ (hf xs 0 0 &&& 63) = 2 := by rw [e_]; decide
      have n3_ : ¬ (hf xs 0 0 &&& 63) = 3 := by rw [e_]; decide
      have n4_ : ¬ (hf xs 0 0 &&& 63) = 4 := by rw [e_]; decide
      have n5_ : ¬ (hf xs 0 0 &&& 63) = 5 := by rw [e_]; decide
      have n6_ : ¬ (hf xs 0 0 &&& 63) = 6 := by rw [e_]; decide
      have n7_ : ¬ (hf xs 0 0 &&& 63) = 7 := by rw [e_]; decide
      have n8_ : ¬ (hf xs 0 0 &&& 63) = 8 := by rw [e_]; decide
      have n9_ : ¬ (hf xs 0 0 &&& 63) = 9 := by rw [e_]; decide
      have n10_ : ¬ (hf xs 0 0 &&& 63) = 10 := by rw [e_]; decide
      have n11_ : ¬ (hf xs 0 0 &&& 63) = 11 := by rw [e_]; decide
      have n12_ : ¬ (hf xs 0 0 &&& 63) = 12 := by rw [e_]; decide
      have n13_ : ¬ (hf xs 0 0 &&& 63) = 13 := by rw [e_]; decide
      have n14_ : ¬ (hf xs 0 0 &&& 63) = 14 := by rw [e_]; decide
      have n15_ : ¬ (hf xs 0 0 &&& 63) = 15 := by rw [e_]; decide
      have n16_ : ¬ (hf xs 0 0 &&& 63) = 16 := by rw [e_]; decide
      have n17_ : ¬ (hf xs 0 0 &&& 63) = 17 := by rw [e_]; decide
      have n18_ : ¬ (hf xs 0 0 &&& 63) = 18 := by rw [e_]; decide
      have n19_ : ¬ (hf xs 0 0 &&& 63) = 19 := by rw [e_]; decide
      have n20_ : ¬ (hf xs 0 0 &&& 63) = 20 := by rw [e_]; decide
      have n21_ : ¬ (hf xs 0 0 &&& 63) = 21 := by rw [e_]; decide
      have n22_ : ¬ (hf xs 0 0 &&& 63) = 22 := by rw [e_]; decide
      have n23_ : ¬ (hf xs 0 0 &&& 63) = 23 := by rw [e_]; decide
      have n24_ : ¬ (hf xs 0 0 &&& 63) = 24 := by rw [e_]; decide
      have n25_ : ¬ (hf xs 0 0 &&& 63) = 25 := by rw [e_]; decide
      have n26_ : ¬ (hf xs 0 0 &&& 63) = 26 := by rw [e_]; decide
      have n27_ : ¬ (hf xs 0 0 &&& 63) = 27 := by rw [e_]; decide
      have n28_ : ¬ (hf xs 0 0 &&& 63) = 28 := by rw [e_]; decide
      have n29_ : ¬ (hf xs 0 0 &&& 63) = 29 := by rw [e_]; decide
      have n30_ : ¬ (hf xs 0 0 &&& 63) = 30 := by rw [e_]; decide
      have n31_ : ¬ (hf xs 0 0 &&& 63) = 31 := by rw [e_]; decide
      have n32_ : ¬ (hf xs 0 0 &&& 63) = 32 := by rw [e_]; decide
      have n33_ : ¬ (hf xs 0 0 &&& 63) = 33 := by rw [e_]; decide
      refine ev_tabIn 1350 rfl (by rw [e_]; decide) (by rw [e_]; decide) (by rw [e_]; rfl) (by decide) ?_
      exact w_c_scan xs
    · have n0_ : ¬ (hf xs 0 0 &&& 63) = 0 := by rw [e_]; decide
      have n1_ : ¬ (hf xs 0 0 &&& 63) = 1 := by rw [e_]; decide
      have n2_ : ¬ (hf xs 0 0 &&& 63) = 2 := by rw [e_]; decide
      have n3_ : ¬ (hf xs 0 0 &&& 63) = 3 := by rw [e_]; decide
      have n4_ : ¬ (hf xs 0 0 &&& 63) = 4 := by rw [e_]; decide
      have n5_ : ¬ (hf xs 0 0 &&& 63) = 5 := by rw [e_]; decide
      have n6_ : ¬ (hf xs 0 0 &&& 63) = 6 := by rw [e_]; decide
      have n7_ : ¬ (hf xs 0 0 &&& 63) = 7 := by rw [e_]; decide
      have n8_ : ¬ (hf xs 0 0 &&& 63) = 8 := by rw [e_]; decide
      have n9_ : ¬ (hf xs 0 0 &&& 63) = 9 := by rw [e_]; decide
      have n10_ : ¬ (hf xs 0 0 &&& 63) = 10 := by rw [e_]; decide
      have n11_ : ¬ (hf xs 0 0 &&& 63) = 11 := by rw [e_]; decide
      have n12_ : ¬ (hf xs 0 0 &&& 63) = 12 := by rw [e_]; decide
      have n13_ : ¬ (hf xs 0 0 &&& 63) = 13 := by rw [e_]; decide
      have n14_ : ¬ (hf xs 0 0 &&& 63) = 14 := by rw [e_]; decide
      have n15_ : ¬ (hf xs 0 0 &&& 63) = 15 := by rw [e_]; decide
      have n16_ : ¬ (hf xs 0 0 &&& 63) = 16 := by rw [e_]; decide
      have n17_ : ¬ (hf xs 0 0 &&& 63) = 17 := by rw [e_]; decide
      have n18_ : ¬ (hf xs 0 0 &&& 63) = 18 := by rw [e_]; decide
      have n19_ : ¬ (hf xs 0 0 &&& 63) = 19 := by rw [e_]; decide
      have n20_ : ¬ (hf xs 0 0 &&& 63) = 20 := by rw [e_]; decide
      have n21_ : ¬ (hf xs 0 0 &&& 63) = 21 := by rw [e_]; decide
      have n22_ : ¬ (hf xs 0 0 &&& 63) = 22 := by rw [e_]; decide
      have n23_ : ¬ (hf xs 0 0 &&& 63) = 23 := by rw [e_]; decide
      have n24_ : ¬ (hf xs 0 0 &&& 63) = 24 := by rw [e_]; decide
      have n25_ : ¬ (hf xs 0 0 &&& 63) = 25 := by rw [e_]; decide
      have n26_ : ¬ (hf xs 0 0 &&& 63) = 26 := by rw [e_]; decide
      have n27_ : ¬ (hf xs 0 0 &&& 63) = 27 := by rw [e_]; decide
      have n28_ : ¬ (hf xs 0 0 &&& 63) = 28 := by rw [e_]; decide
      have n29_ : ¬ (hf xs 0 0 &&& 63) = 29 := by rw [e_]; decide
      have n30_ : ¬ (hf xs 0 0 &&& 63) = 30 := by rw [e_]; decide
      have n31_ : ¬ (hf xs 0 0 &&& 63) = 31 := by rw [e_]; decide
      have n32_ : ¬ (hf xs 0 0 &&& 63) = 32 := by rw [e_]; decide
      have n33_ : ¬ (hf xs 0 0 &&& 63) = 33 := by rw [e_]; decide
      have n34_ : ¬ (hf xs 0 0 &&& 63) = 34 := by rw [e_]; decide
      refine ev_tabIn 1403 rfl (by rw [e_]; decide) (by rw [e_]; decide) (by rw [e_]; rfl) (by decide) ?_
      exact w_c_count xs

set_option maxRecDepth 100000 in
set_option maxHeartbeats 4000000 in
theorem w_none (xs : Nat → Int32) (L : Nat) (hL : L < 8) : EvQ mi_L_law 18 [some (.ref 0), some (.ref 1), some (.ref 63), some (.int 0)] [] (G0 L false) (hf xs) 0 0 QL := by
  have q8 : nI L - 8 < 0 := by
    rcases (show L = 0 ∨ L = 1 ∨ L = 2 ∨ L = 3 ∨ L = 4 ∨ L = 5 ∨ L = 6 ∨ L = 7 by omega) with rfl | rfl | rfl | rfl | rfl | rfl | rfl | rfl <;> decide
  refine ev_iload_n rfl rfl rfl ?_
  refine ev_aload_n rfl rfl rfl ?_
  refine ev_alen rfl rfl rfl ?_
  refine ev_bipush (v := 8) rfl rfl (by decide) ?_
  refine ev_isub rfl rfl ?_
  refine ev_icmp_gt rfl rfl (fun c_24 => ?_) (fun z_ => absurd q8 z_)
  refine ev_iconst (v := 1) rfl rfl (by decide) ?_
  exact ev_iret rfl rfl rfl (rfl)

theorem hz_X (xs : Nat → Int32) : ev_Z 63 (h_X (h_00 xs)) := by
  intro i j hi
  unfold h_X h_Sheets h_River h_Suspects h_Setting h_Tunes h_Reader h_Acts h_Whistles h_boil h_00
  simp only [ev_set]
  repeat rw [if_neg (by omega)]
theorem hz_00 (xs : Nat → Int32) : ev_Z 1 (h_00 xs) := fun i j hi => if_neg (by omega)

set_option maxRecDepth 100000 in
set_option maxHeartbeats 4000000 in
theorem w_all (xs : Nat → Int32) (L : Nat) (hL : L ≤ 8) : EvQ mi_L_law 0 [some (.ref 0), none, none, none] [] [(.inr (.int, L), [])] (h_00 xs) 94 101641 QL := by
  refine ev_new (kc := 93) (ks := 101631) rfl rfl cl_L_7 rfl rfl (fun j => rfl) ?_
  refine EvQ.geo (gb_1 L) rfl ?_
  refine ev_dup rfl rfl rfl ?_
  refine ev_I0 (kc := 32) (ks := 100138) rfl rfl lk_L_9 in_X9_init rfl rfl (c_X_init L _ (hz_00 xs)) ?_
  rintro G' h' ⟨-, rfl, rfl⟩
  refine ev_astore_n rfl rfl rfl rfl ?_
  dsimp only [List.set]
  refine ev_new (kc := 31) (ks := 100083) rfl rfl cl_L_10 rfl rfl (fun j => ev_Z.at (hz_X xs) 63 j rfl) ?_
  refine EvQ.geo (gm_0 L) rfl ?_
  refine ev_dup rfl rfl rfl ?_
  refine ev_I0 (kc := 0) (ks := 0) rfl rfl lk_L_12 in_X10_init rfl rfl (c_Model_init L _ (hz_X xs)) ?_
  rintro G' h' ⟨-, rfl, rfl⟩
  refine EvQ.geo (G0 L false) rfl ?_
  refine ev_astore_n rfl rfl rfl rfl ?_
  dsimp only [List.set]
  refine ev_iconst (v := 0) rfl rfl (by decide) ?_
  refine ev_istore_n rfl rfl rfl rfl ?_
  dsimp only [List.set]
  by_cases q8 : L = 8
  · subst q8
    exact w_one xs
  · exact w_none xs L (by omega)
