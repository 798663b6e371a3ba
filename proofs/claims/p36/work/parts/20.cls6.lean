def z_us (x y : Int32) : Int32 := (x.toUInt32 >>> (y.toUInt32 &&& Int32.toUInt32 31)).toInt32
def z_b1 (x : Int32) : Int32 := x - (z_us x 1 &&& 1431655765)
def z_b2 (x : Int32) : Int32 := (x &&& 858993459) + (z_us x 2 &&& 858993459)
def z_b3 (x : Int32) : Int32 := x + z_us x 4 &&& 252645135
def z_b4 (x : Int32) : Int32 := x + z_us x 8
def z_b5 (x : Int32) : Int32 := x + z_us x 16
def z_bc (x : Int32) : Int32 := z_b5 (z_b4 (z_b3 (z_b2 (z_b1 x)))) &&& 63
set_option maxRecDepth 100000 in
set_option maxHeartbeats 4000000 in
theorem c_bitCount (G : Geo) (h : Hp) (x : Int32) : EvD mi_J6_bitCount_0f7a4 [.int x] G h (z_bc x) (h) := by
  refine EvD.of (lo := [some (.int x)]) pf_J6_bitCount_0f7a4 ok_J6_bitCount_0f7a4 rfl rfl ?_
  refine ev_iload_n rfl rfl rfl ?_
  refine ev_iload_n rfl rfl rfl ?_
  refine ev_iconst (v := 1) rfl rfl (by decide) ?_
  refine ev_iushr rfl rfl ?_
  refine ev_ldcw rfl rfl kc_J6_265 ?_
  refine ev_iand rfl rfl ?_
  refine ev_isub rfl rfl ?_
  refine ev_istore_n rfl rfl rfl rfl ?_
  dsimp only [List.set]
  refine ev_iload_n rfl rfl rfl ?_
  refine ev_ldcw rfl rfl kc_J6_266 ?_
  refine ev_iand rfl rfl ?_
  refine ev_iload_n rfl rfl rfl ?_
  refine ev_iconst (v := 2) rfl rfl (by decide) ?_
  refine ev_iushr rfl rfl ?_
  refine ev_ldcw rfl rfl kc_J6_266 ?_
  refine ev_iand rfl rfl ?_
  refine ev_iadd rfl rfl ?_
  refine ev_istore_n rfl rfl rfl rfl ?_
  dsimp only [List.set]
  refine ev_iload_n rfl rfl rfl ?_
  refine ev_iload_n rfl rfl rfl ?_
  refine ev_iconst (v := 4) rfl rfl (by decide) ?_
  refine ev_iushr rfl rfl ?_
  refine ev_iadd rfl rfl ?_
  refine ev_ldcw rfl rfl kc_J6_267 ?_
  refine ev_iand rfl rfl ?_
  refine ev_istore_n rfl rfl rfl rfl ?_
  dsimp only [List.set]
  refine ev_iload_n rfl rfl rfl ?_
  refine ev_iload_n rfl rfl rfl ?_
  refine ev_bipush (v := 8) rfl rfl (by decide) ?_
  refine ev_iushr rfl rfl ?_
  refine ev_iadd rfl rfl ?_
  refine ev_istore_n rfl rfl rfl rfl ?_
  dsimp only [List.set]
  refine ev_iload_n rfl rfl rfl ?_
  refine ev_iload_n rfl rfl rfl ?_
  refine ev_bipush (v := 16) rfl rfl (by decide) ?_
  refine ev_iushr rfl rfl ?_
  refine ev_iadd rfl rfl ?_
  refine ev_istore_n rfl rfl rfl rfl ?_
  dsimp only [List.set]
  refine ev_iload_n rfl rfl rfl ?_
  refine ev_bipush (v := 63) rfl rfl (by decide) ?_
  refine ev_iand rfl rfl ?_
  exact ev_iret rfl rfl rfl (⟨rfl, rfl, rfl⟩)

