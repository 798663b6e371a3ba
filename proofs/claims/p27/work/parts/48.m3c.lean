set_option maxRecDepth 100000 in
set_option maxHeartbeats 4000000 in
theorem w_X10_isSign_63 (L : Nat) (b : Bool) (h : Hp) (hB : Bx h) (a0 : Int32) : EvP mi_X10_isSign [.ref 63, .int a0] (G0 L b) h (fun r : Int32 => B r 0 1 ∧ (¬ r.toInt = 0 → (h 63 19).toInt = 3)) := by
  refine EvM.of2 (lo := [some (.ref 63), some (.int a0)]) pf_X10_isSign ok_X10_isSign rfl rfl ?_
  obtain ⟨f1, ef1⟩ : ∃ f_, h 63 19 = f_ := ⟨_, rfl⟩
  have bf1 : B f1 0 3 := by have z_ := hB 63 19; rw [ef1] at z_; exact z_
  have zf1 := congrArg Int32.toInt ef1
  refine ev_aload_n rfl rfl rfl ?_
  refine ev_getV (v := f1) rfl rfl fl_X10_204 rfl rfl rfl ef1 ?_
  refine ev_iconst (v := 3) rfl rfl (by decide) ?_
  refine ev_icmp_ne rfl rfl (fun c2 => ?_) (fun c2 => ?_)
  · have b3 : B f1 0 2 := R_neU bf1 (by decide : B 3 3 3) c2 (by decide)
    have z4 := w_ne c2
    rw [show (3 : Int32).toInt = 3 from by decide] at z4
    refine ev_iconst (v := 0) rfl rfl (by decide) ?_
    exact ev_iret rfl rfl rfl ⟨⟨_, rfl, ⟨((by decide : B 0 0 0).mono (by decide) (by decide)), (by have z0_ := congrArg Int32.toInt ef1; have z_ := w_lits; have zl_ := l_lits; omega)⟩⟩, rfl, rfl⟩
  · have b5 : B f1 3 3 := R_eqX bf1 (by decide : B 3 3 3) c2
    have z6 := congrArg Int32.toInt c2
    rw [show (3 : Int32).toInt = 3 from by decide] at z6
    refine ev_aload_n rfl rfl rfl ?_
    refine ev_getW (l := (-2147483648)) (u := 2147483647) hB rfl rfl rfl fl_X10_207 rfl rfl rfl (fun v7 b7 e7 => ?_)
    refine ev_iload_n rfl rfl rfl ?_
    refine ev_icmp_ne rfl rfl (fun c8 => ?_) (fun c8 => ?_)
    · have z9 := w_ne c8
      refine ev_iconst (v := 0) rfl rfl (by decide) ?_
      exact ev_iret rfl rfl rfl ⟨⟨_, rfl, ⟨((by decide : B 0 0 0).mono (by decide) (by decide)), (by have z0_ := congrArg Int32.toInt ef1; have z_ := w_lits; have zl_ := l_lits; omega)⟩⟩, rfl, rfl⟩
    · have z10 := congrArg Int32.toInt c8
      refine ev_iconst (v := 1) rfl rfl (by decide) ?_
      refine ev_goto rfl rfl ?_
      exact ev_iret rfl rfl rfl ⟨⟨_, rfl, ⟨((by decide : B 1 1 1).mono (by decide) (by decide)), (by have z0_ := congrArg Int32.toInt ef1; have z_ := w_lits; have zl_ := l_lits; omega)⟩⟩, rfl, rfl⟩

set_option maxRecDepth 100000 in
set_option maxHeartbeats 4000000 in
theorem w_X10_readTune_63 (L : Nat) (b : Bool) (h : Hp) (hB : Bx h) (rp0 : (h 63 17).toInt ≤ (h 63 16).toInt) (rp1 : (h 63 21).toInt = 0 → (h 63 19).toInt = 1 → 0 ≤ (h 63 20).toInt ∧ (h 63 20).toInt ≤ 4095) : EvK mi_X10_readTune [.ref 63] (G0 L b) h (fun z : Hp => ((z 63 21).toInt = 0 → (z 63 27).toInt ≤ 24)) [(63, 17), (63, 18), (63, 19), (63, 20), (63, 21), (63, 22), (63, 27), (63, 28), (63, 31), (75, 999), (76, 999), (77, 999)] := by
  refine EvM.of2 (lo := [some (.ref 63), none, none, none]) pf_X10_readTune ok_X10_readTune rfl rfl ?_
  have hJ0 : JW [(63, 17), (63, 18), (63, 19), (63, 20), (63, 21), (63, 22), (63, 27), (63, 28), (63, 31), (75, 999), (76, 999), (77, 999)] h h := JW.refl hB
  obtain ⟨f1, ef1⟩ : ∃ f_, h 63 16 = f_ := ⟨_, rfl⟩
  have bf1 : B f1 0 160 := by have z_ := hJ0.1 63 16; rw [ef1] at z_; exact z_
  have zf1 := congrArg Int32.toInt ef1
  obtain ⟨f2, ef2⟩ : ∃ f_, h 63 17 = f_ := ⟨_, rfl⟩
  have bf2 : B f2 0 160 := by have z_ := hJ0.1 63 17; rw [ef2] at z_; exact z_
  have zf2 := congrArg Int32.toInt ef2
  obtain ⟨f3, ef3⟩ : ∃ f_, h 63 21 = f_ := ⟨_, rfl⟩
  have bf3 : B f3 0 6 := by have z_ := hJ0.1 63 21; rw [ef3] at z_; exact z_
  have zf3 := congrArg Int32.toInt ef3
  obtain ⟨f4, ef4⟩ : ∃ f_, h 63 20 = f_ := ⟨_, rfl⟩
  have zf4 := congrArg Int32.toInt ef4
  obtain ⟨f5, ef5⟩ : ∃ f_, h 63 19 = f_ := ⟨_, rfl⟩
  have bf5 : B f5 0 3 := by have z_ := hJ0.1 63 19; rw [ef5] at z_; exact z_
  have zf5 := congrArg Int32.toInt ef5
  obtain ⟨f6, ef6⟩ : ∃ f_, h 63 27 = f_ := ⟨_, rfl⟩
  have bf6 : B f6 0 60 := by have z_ := hJ0.1 63 27; rw [ef6] at z_; exact z_
  have zf6 := congrArg Int32.toInt ef6
  obtain ⟨f7, ef7⟩ : ∃ f_, h 63 31 = f_ := ⟨_, rfl⟩
  have bf7 : B f7 0 4 := by have z_ := hJ0.1 63 31; rw [ef7] at z_; exact z_
  have zf7 := congrArg Int32.toInt ef7
  obtain ⟨f8, ef8⟩ : ∃ f_, h 76 0 = f_ := ⟨_, rfl⟩
  have bf8 : B f8 0 60 := by have z_ := hJ0.1 76 0; rw [ef8] at z_; exact z_
  have zf8 := congrArg Int32.toInt ef8
  obtain ⟨f9, ef9⟩ : ∃ f_, h 76 1 = f_ := ⟨_, rfl⟩
  have bf9 : B f9 0 60 := by have z_ := hJ0.1 76 1; rw [ef9] at z_; exact z_
  have zf9 := congrArg Int32.toInt ef9
  obtain ⟨f10, ef10⟩ : ∃ f_, h 76 2 = f_ := ⟨_, rfl⟩
  have bf10 : B f10 0 60 := by have z_ := hJ0.1 76 2; rw [ef10] at z_; exact z_
  have zf10 := congrArg Int32.toInt ef10
  obtain ⟨f11, ef11⟩ : ∃ f_, h 76 3 = f_ := ⟨_, rfl⟩
  have bf11 : B f11 0 60 := by have z_ := hJ0.1 76 3; rw [ef11] at z_; exact z_
  have zf11 := congrArg Int32.toInt ef11
  refine ev_iconst (v := 1) rfl rfl (by decide) ?_
  refine ev_istore_n rfl rfl rfl rfl ?_
  dsimp only [List.set]
  refine ev_aload_n rfl rfl rfl ?_
  refine ev_iconst (v := 0) rfl rfl (by decide) ?_
  refine ev_putW (l := 0) (u := 4) hJ0 rfl (by decide : B 0 0 0) (by decide) (by decide) rfl rfl rfl fl_X10_241 rfl rfl rfl rfl rfl (fun h12 hJ12 k12 => ?_)
  refine ev_aload_n rfl rfl rfl ?_
  refine ev_iconst (v := 0) rfl rfl (by decide) ?_
  refine ev_putW (l := 0) (u := 60) hJ12 rfl (by decide : B 0 0 0) (by decide) (by decide) rfl rfl rfl fl_X10_234 rfl rfl rfl rfl rfl (fun h13 hJ13 k13 => ?_)
  refine ev_aload_n rfl rfl rfl ?_
  refine ev_iconst (v := 0) rfl rfl (by decide) ?_
  refine ev_puzW (l := (-2147483648)) (u := 2147483647) hJ13 rfl ((by decide : B 0 0 0).mono (by decide) (by decide)) (by decide) (by decide) rfl rfl rfl fl_X10_237 rfl rfl rfl rfl rfl (fun h14 hJ14 k14 => ?_)
  refine ev_iconst (v := 1) rfl rfl (by decide) ?_
  refine ev_istore_n rfl rfl rfl rfl ?_
  dsimp only [List.set]
  have lp19_1817 : ∀ (n : Nat) (w1818 : Int32) (w1819 : Int32) (h1822 : Hp), B w1818 0 4095 → B w1819 1 1 → JW [(63, 17), (63, 18), (63, 19), (63, 20), (63, 21), (63, 22), (63, 27), (63, 28), (63, 31), (75, 999), (76, 999), (77, 999)] h h1822 → (h1822 63 16 = f1) → ((0 < (h1822 63 31).toInt → (h1822 76 0).toInt ≤ (h1822 63 27).toInt)) → ((1 < (h1822 63 31).toInt → (h1822 76 0).toInt ≤ (h1822 76 1).toInt ∧ (h1822 76 1).toInt ≤ (h1822 63 27).toInt)) → ((2 < (h1822 63 31).toInt → (h1822 76 1).toInt ≤ (h1822 76 2).toInt ∧ (h1822 76 2).toInt ≤ (h1822 63 27).toInt)) → ((3 < (h1822 63 31).toInt → (h1822 76 2).toInt ≤ (h1822 76 3).toInt ∧ (h1822 76 3).toInt ≤ (h1822 63 27).toInt)) → ((h1822 63 17).toInt ≤ (h1822 63 16).toInt) → ((h1822 63 21).toInt = 0 → (h1822 63 19).toInt = 1 → 0 ≤ (h1822 63 20).toInt ∧ (h1822 63 20).toInt ≤ 4095) → mM (h1822 63 21) (h1822 63 17) (h1822 63 19) ≤ (n : Int) → EvQ mi_X10_readTune 19 [some (.ref 63), some (.int w1818), some (.int w1819), none] [] (G0 L b) h1822 0 0 (QK (fun z : Hp => ((z 63 21).toInt = 0 → (z 63 27).toInt ≤ 24)) [(63, 17), (63, 18), (63, 19), (63, 20), (63, 21), (63, 22), (63, 27), (63, 28), (63, 31), (75, 999), (76, 999), (77, 999)] (G0 L b) h) := by
    intro n
    induction n with
    | zero =>
      intro w1818 w1819 h1822 b1820 b1821 hJ1823 z1824 y19_0 y19_1 y19_2 y19_3 y19_4 y19_5 hm19
      exact absurd hm19 (by have z_ := mM_pos (h1822 63 21) (h1822 63 17) (h1822 63 19) (hJ1823.1 63 17); omega)
    | succ n ih19 =>
      intro w1818 w1819 h1822 b1820 b1821 hJ1823 z1824 y19_0 y19_1 y19_2 y19_3 y19_4 y19_5 hm19
      obtain ⟨f1825, ef1825⟩ : ∃ f_, h1822 63 17 = f_ := ⟨_, rfl⟩
      have bf1825 : B f1825 0 160 := by have z_ := hJ1823.1 63 17; rw [ef1825] at z_; exact z_
      have zf1825 := congrArg Int32.toInt ef1825
      obtain ⟨f1826, ef1826⟩ : ∃ f_, h1822 63 21 = f_ := ⟨_, rfl⟩
      have bf1826 : B f1826 0 6 := by have z_ := hJ1823.1 63 21; rw [ef1826] at z_; exact z_
      have zf1826 := congrArg Int32.toInt ef1826
      obtain ⟨f1827, ef1827⟩ : ∃ f_, h1822 63 20 = f_ := ⟨_, rfl⟩
      have zf1827 := congrArg Int32.toInt ef1827
      obtain ⟨f1828, ef1828⟩ : ∃ f_, h1822 63 19 = f_ := ⟨_, rfl⟩
      have bf1828 : B f1828 0 3 := by have z_ := hJ1823.1 63 19; rw [ef1828] at z_; exact z_
      have zf1828 := congrArg Int32.toInt ef1828
      obtain ⟨f1829, ef1829⟩ : ∃ f_, h1822 63 27 = f_ := ⟨_, rfl⟩
      have bf1829 : B f1829 0 60 := by have z_ := hJ1823.1 63 27; rw [ef1829] at z_; exact z_
      have zf1829 := congrArg Int32.toInt ef1829
      obtain ⟨f1830, ef1830⟩ : ∃ f_, h1822 63 31 = f_ := ⟨_, rfl⟩
      have bf1830 : B f1830 0 4 := by have z_ := hJ1823.1 63 31; rw [ef1830] at z_; exact z_
      have zf1830 := congrArg Int32.toInt ef1830
      obtain ⟨f1831, ef1831⟩ : ∃ f_, h1822 76 0 = f_ := ⟨_, rfl⟩
      have bf1831 : B f1831 0 60 := by have z_ := hJ1823.1 76 0; rw [ef1831] at z_; exact z_
      have zf1831 := congrArg Int32.toInt ef1831
      obtain ⟨f1832, ef1832⟩ : ∃ f_, h1822 76 1 = f_ := ⟨_, rfl⟩
      have bf1832 : B f1832 0 60 := by have z_ := hJ1823.1 76 1; rw [ef1832] at z_; exact z_
      have zf1832 := congrArg Int32.toInt ef1832
      obtain ⟨f1833, ef1833⟩ : ∃ f_, h1822 76 2 = f_ := ⟨_, rfl⟩
      have bf1833 : B f1833 0 60 := by have z_ := hJ1823.1 76 2; rw [ef1833] at z_; exact z_
      have zf1833 := congrArg Int32.toInt ef1833
      obtain ⟨f1834, ef1834⟩ : ∃ f_, h1822 76 3 = f_ := ⟨_, rfl⟩
      have bf1834 : B f1834 0 60 := by have z_ := hJ1823.1 76 3; rw [ef1834] at z_; exact z_
      have zf1834 := congrArg Int32.toInt ef1834
      have z1835 := congrArg Int32.toInt z1824
      refine ev_iload_n rfl rfl rfl ?_
      refine ev_if_eq rfl rfl (fun c1836 => absurd c1836 (D_ne b1821 (by decide : B 0 0 0) (by decide))) (fun c1836 => ?_)
      have z1837 := w_ne c1836
      rw [show (0 : Int32).toInt = 0 from by decide] at z1837
      refine ev_aload_n rfl rfl rfl ?_
      refine ev_getV (v := f1826) rfl rfl fl_X10_191 rfl rfl rfl ef1826 ?_
      refine ev_if_ne rfl rfl (fun c1838 => ?_) (fun c1838 => ?_)
      · have b1839 : B f1826 1 6 := R_neL bf1826 (by decide : B 0 0 0) c1838 (by decide)
        have z1840 := w_ne c1838
        rw [show (0 : Int32).toInt = 0 from by decide] at z1840
        refine ev_aload_n rfl rfl rfl ?_
        refine ev_getV (v := f1826) rfl rfl fl_X10_191 rfl rfl rfl ef1826 ?_
        refine ev_if_ne rfl rfl (fun c1843 => ?_) (fun c1843 => absurd c1843 (D_ne b1839 (by decide : B 0 0 0) (by decide)))
        have z1844 := w_ne c1843
        rw [show (0 : Int32).toInt = 0 from by decide] at z1844
        exact ev_vret rfl rfl trivial ⟨rfl, rfl, hJ1823, (by have z0_ := congrArg Int32.toInt ef1826; have z1_ := congrArg Int32.toInt ef1829; have z_ := w_lits; have zl_ := l_lits; omega)⟩
      · have b1841 : B f1826 0 0 := R_eqX bf1826 (by decide : B 0 0 0) c1838
        have z1842 := congrArg Int32.toInt c1838
        rw [show (0 : Int32).toInt = 0 from by decide] at z1842
        refine ev_aload_n rfl rfl rfl ?_
        refine ev_getV (v := f1828) rfl rfl fl_X10_204 rfl rfl rfl ef1828 ?_
        refine ev_iconst (v := 1) rfl rfl (by decide) ?_
        refine ev_icmp_eq rfl rfl (fun c1845 => ?_) (fun c1845 => ?_)
        · have b1846 : B f1828 1 1 := R_eqX bf1828 (by decide : B 1 1 1) c1845
          have z1847 := congrArg Int32.toInt c1845
          rw [show (1 : Int32).toInt = 1 from by decide] at z1847
          refine ev_aload_n rfl rfl rfl ?_
          refine ev_aload_n rfl rfl rfl ?_
          refine ev_getV (v := f1828) rfl rfl fl_X10_204 rfl rfl rfl ef1828 ?_
          refine ev_iconst (v := 1) rfl rfl (by decide) ?_
          refine ev_icmp_ne rfl rfl (fun c1849 => absurd (D_eq b1846 (by decide : B 1 1 1)) c1849) (fun c1849 => ?_)
          have z1850 := congrArg Int32.toInt c1849
          rw [show (1 : Int32).toInt = 1 from by decide] at z1850
          refine ev_aload_n rfl rfl rfl ?_
          refine ev_getV (v := f1827) rfl rfl fl_X10_207 rfl rfl rfl ef1827 ?_
          refine ev_goto rfl rfl ?_
          have b1851 : B f1827 0 4095 := ⟨(by have z0_ := congrArg Int32.toInt z1824; have z1_ := congrArg Int32.toInt ef1825; have z2_ := congrArg Int32.toInt ef1826; have z3_ := congrArg Int32.toInt ef1827; have z4_ := congrArg Int32.toInt ef1828; have z5_ := congrArg Int32.toInt ef1829; have z6_ := congrArg Int32.toInt ef1830; have z7_ := congrArg Int32.toInt ef1831; have z8_ := congrArg Int32.toInt ef1832; have z9_ := congrArg Int32.toInt ef1833; have z10_ := congrArg Int32.toInt ef1834; have z_ := w_lits; have zl_ := l_lits; omega), (by have z0_ := congrArg Int32.toInt z1824; have z1_ := congrArg Int32.toInt ef1825; have z2_ := congrArg Int32.toInt ef1826; have z3_ := congrArg Int32.toInt ef1827; have z4_ := congrArg Int32.toInt ef1828; have z5_ := congrArg Int32.toInt ef1829; have z6_ := congrArg Int32.toInt ef1830; have z7_ := congrArg Int32.toInt ef1831; have z8_ := congrArg Int32.toInt ef1832; have z9_ := congrArg Int32.toInt ef1833; have z10_ := congrArg Int32.toInt ef1834; have z_ := w_lits; have zl_ := l_lits; omega)⟩
          refine ev_V1K hJ1823 rfl rfl rfl lk_X10_247 vt_X10_beatRead rfl rfl rfl rfl rfl (w_X10_beatRead_63 L b h1822 hJ1823.1 f1827 b1851 (by have z0_ := congrArg Int32.toInt ef1829; have z1_ := congrArg Int32.toInt ef1830; have z2_ := congrArg Int32.toInt ef1831; have z_ := w_lits; have zl_ := l_lits; omega) (by have z0_ := congrArg Int32.toInt ef1829; have z1_ := congrArg Int32.toInt ef1830; have z2_ := congrArg Int32.toInt ef1831; have z3_ := congrArg Int32.toInt ef1832; have z_ := w_lits; have zl_ := l_lits; omega) (by have z0_ := congrArg Int32.toInt ef1829; have z1_ := congrArg Int32.toInt ef1830; have z2_ := congrArg Int32.toInt ef1832; have z3_ := congrArg Int32.toInt ef1833; have z_ := w_lits; have zl_ := l_lits; omega) (by have z0_ := congrArg Int32.toInt ef1829; have z1_ := congrArg Int32.toInt ef1830; have z2_ := congrArg Int32.toInt ef1833; have z3_ := congrArg Int32.toInt ef1834; have z_ := w_lits; have zl_ := l_lits; omega)) (fun h1852 hJ1852 k1852 m1852 => ?_)
          obtain ⟨m1852_0, m1852_1, m1852_2, m1852_3⟩ := m1852
          obtain ⟨f1853, ef1853⟩ : ∃ f_, h1852 63 27 = f_ := ⟨_, rfl⟩
          have bf1853 : B f1853 0 60 := by have z_ := hJ1852.1 63 27; rw [ef1853] at z_; exact z_
          have zf1853 := congrArg Int32.toInt ef1853
          have z1854 := congrArg Int32.toInt (rd_w k1852 ef1830 rfl)
          have z1855 := congrArg Int32.toInt (rd_w k1852 ef1831 rfl)
          have z1856 := congrArg Int32.toInt (rd_w k1852 ef1832 rfl)
          have z1857 := congrArg Int32.toInt (rd_w k1852 ef1833 rfl)
          have z1858 := congrArg Int32.toInt (rd_w k1852 ef1834 rfl)
          refine ev_iconst (v := 0) rfl rfl (by decide) ?_
          refine ev_istore_n rfl rfl rfl rfl ?_
          dsimp only [List.set]
          refine ev_aload_n rfl rfl rfl ?_
          have z1859 := congrArg Int32.toInt (rd_w k1852 z1824 rfl)
          have z1860 := congrArg Int32.toInt (rd_w k1852 ef1825 rfl)
          have z1861 := congrArg Int32.toInt (rd_w k1852 ef1826 rfl)
          have z1862 := congrArg Int32.toInt (rd_w k1852 ef1827 rfl)
          have z1863 := congrArg Int32.toInt (rd_w k1852 ef1828 rfl)
          refine ev_V0K hJ1852 rfl rfl rfl lk_X10_251 vt_X10_next rfl rfl rfl rfl rfl (w_X10_next_63 L b h1852 hJ1852.1 (by have z0_ := congrArg Int32.toInt (rd_w k1852 z1824 rfl); have z1_ := congrArg Int32.toInt (rd_w k1852 ef1825 rfl); have z_ := w_lits; have zl_ := l_lits; omega)) (fun h1864 hJ1864 k1864 m1864 => ?_)
          obtain ⟨m1864_0, m1864_1, m1864_2, m1864_3, m1864_4⟩ := m1864
          obtain ⟨f1865, ef1865⟩ : ∃ f_, h1864 63 17 = f_ := ⟨_, rfl⟩
          have bf1865 : B f1865 0 160 := by have z_ := hJ1864.1 63 17; rw [ef1865] at z_; exact z_
          have zf1865 := congrArg Int32.toInt ef1865
          obtain ⟨f1866, ef1866⟩ : ∃ f_, h1864 63 21 = f_ := ⟨_, rfl⟩
          have bf1866 : B f1866 0 6 := by have z_ := hJ1864.1 63 21; rw [ef1866] at z_; exact z_
          have zf1866 := congrArg Int32.toInt ef1866
          obtain ⟨f1867, ef1867⟩ : ∃ f_, h1864 63 20 = f_ := ⟨_, rfl⟩
          have zf1867 := congrArg Int32.toInt ef1867
          obtain ⟨f1868, ef1868⟩ : ∃ f_, h1864 63 19 = f_ := ⟨_, rfl⟩
          have bf1868 : B f1868 0 3 := by have z_ := hJ1864.1 63 19; rw [ef1868] at z_; exact z_
          have zf1868 := congrArg Int32.toInt ef1868
          have z1869 := congrArg Int32.toInt (rd_w k1864 (rd_w k1852 z1824 rfl) rfl)
          refine ev_goto rfl rfl ?_
          exact (ih19 0 w1819 h1864 ((by decide : B 0 0 0).mono (by decide) (by decide)) b1821 hJ1864 (rd_w k1864 (rd_w k1852 z1824 rfl) rfl) (by have z0_ := congrArg Int32.toInt (rd_w k1864 ef1853 rfl); have z1_ := congrArg Int32.toInt (rd_w k1864 (rd_w k1852 ef1830 rfl) rfl); have z2_ := congrArg Int32.toInt (rd_w k1864 (rd_w k1852 ef1831 rfl) rfl); have z_ := w_lits; have zl_ := l_lits; omega) (by have z0_ := congrArg Int32.toInt (rd_w k1864 ef1853 rfl); have z1_ := congrArg Int32.toInt (rd_w k1864 (rd_w k1852 ef1830 rfl) rfl); have z2_ := congrArg Int32.toInt (rd_w k1864 (rd_w k1852 ef1831 rfl) rfl); have z3_ := congrArg Int32.toInt (rd_w k1864 (rd_w k1852 ef1832 rfl) rfl); have z_ := w_lits; have zl_ := l_lits; omega) (by have z0_ := congrArg Int32.toInt (rd_w k1864 ef1853 rfl); have z1_ := congrArg Int32.toInt (rd_w k1864 (rd_w k1852 ef1830 rfl) rfl); have z2_ := congrArg Int32.toInt (rd_w k1864 (rd_w k1852 ef1832 rfl) rfl); have z3_ := congrArg Int32.toInt (rd_w k1864 (rd_w k1852 ef1833 rfl) rfl); have z_ := w_lits; have zl_ := l_lits; omega) (by have z0_ := congrArg Int32.toInt (rd_w k1864 ef1853 rfl); have z1_ := congrArg Int32.toInt (rd_w k1864 (rd_w k1852 ef1830 rfl) rfl); have z2_ := congrArg Int32.toInt (rd_w k1864 (rd_w k1852 ef1833 rfl) rfl); have z3_ := congrArg Int32.toInt (rd_w k1864 (rd_w k1852 ef1834 rfl) rfl); have z_ := w_lits; have zl_ := l_lits; omega) (by have z0_ := congrArg Int32.toInt (rd_w k1864 (rd_w k1852 z1824 rfl) rfl); have z1_ := congrArg Int32.toInt ef1865; have z_ := w_lits; have zl_ := l_lits; omega) (by have z0_ := congrArg Int32.toInt ef1866; have z1_ := congrArg Int32.toInt ef1867; have z2_ := congrArg Int32.toInt ef1868; have z_ := w_lits; have zl_ := l_lits; omega) (mM_dec hm19 (by have z0_ := congrArg Int32.toInt (rd_w k1864 (rd_w k1852 z1824 rfl) rfl); have z1_ := congrArg Int32.toInt ef1865; have z2_ := congrArg Int32.toInt ef1866; have z3_ := congrArg Int32.toInt ef1867; have z4_ := congrArg Int32.toInt ef1868; have z5_ := congrArg Int32.toInt (rd_w k1864 ef1853 rfl); have z6_ := congrArg Int32.toInt (rd_w k1864 (rd_w k1852 ef1830 rfl) rfl); have z7_ := congrArg Int32.toInt (rd_w k1864 (rd_w k1852 ef1831 rfl) rfl); have z8_ := congrArg Int32.toInt (rd_w k1864 (rd_w k1852 ef1832 rfl) rfl); have z9_ := congrArg Int32.toInt (rd_w k1864 (rd_w k1852 ef1833 rfl) rfl); have z10_ := congrArg Int32.toInt (rd_w k1864 (rd_w k1852 ef1834 rfl) rfl); have z_ := w_lits; have zl_ := l_lits; omega) (by have z0_ := congrArg Int32.toInt (rd_w k1864 (rd_w k1852 z1824 rfl) rfl); have z1_ := congrArg Int32.toInt ef1865; have z2_ := congrArg Int32.toInt ef1866; have z3_ := congrArg Int32.toInt ef1867; have z4_ := congrArg Int32.toInt ef1868; have z5_ := congrArg Int32.toInt (rd_w k1864 ef1853 rfl); have z6_ := congrArg Int32.toInt (rd_w k1864 (rd_w k1852 ef1830 rfl) rfl); have z7_ := congrArg Int32.toInt (rd_w k1864 (rd_w k1852 ef1831 rfl) rfl); have z8_ := congrArg Int32.toInt (rd_w k1864 (rd_w k1852 ef1832 rfl) rfl); have z9_ := congrArg Int32.toInt (rd_w k1864 (rd_w k1852 ef1833 rfl) rfl); have z10_ := congrArg Int32.toInt (rd_w k1864 (rd_w k1852 ef1834 rfl) rfl); have z_ := w_lits; have zl_ := l_lits; omega) (by have z0_ := congrArg Int32.toInt (rd_w k1864 (rd_w k1852 z1824 rfl) rfl); have z1_ := congrArg Int32.toInt ef1865; have z2_ := congrArg Int32.toInt ef1866; have z3_ := congrArg Int32.toInt ef1867; have z4_ := congrArg Int32.toInt ef1868; have z5_ := congrArg Int32.toInt (rd_w k1864 ef1853 rfl); have z6_ := congrArg Int32.toInt (rd_w k1864 (rd_w k1852 ef1830 rfl) rfl); have z7_ := congrArg Int32.toInt (rd_w k1864 (rd_w k1852 ef1831 rfl) rfl); have z8_ := congrArg Int32.toInt (rd_w k1864 (rd_w k1852 ef1832 rfl) rfl); have z9_ := congrArg Int32.toInt (rd_w k1864 (rd_w k1852 ef1833 rfl) rfl); have z10_ := congrArg Int32.toInt (rd_w k1864 (rd_w k1852 ef1834 rfl) rfl); have z_ := w_lits; have zl_ := l_lits; omega)))
        · have z1848 := w_ne c1845
          rw [show (1 : Int32).toInt = 1 from by decide] at z1848
          refine ev_aload_n rfl rfl rfl ?_
          refine ev_bipush (v := 46) rfl rfl (by decide) ?_
          refine ev_V1P rfl rfl lk_X10_244 vt_X10_isSign rfl rfl rfl rfl rfl (w_X10_isSign_63 L b h1822 hJ1823.1 46) (fun r1870 q1870 => ?_)
          obtain ⟨b1870, pp1870_0⟩ := q1870
          refine ev_if_eq rfl rfl (fun c1871 => ?_) (fun c1871 => ?_)
          · have b1872 : B r1870 0 0 := R_eqX b1870 (by decide : B 0 0 0) c1871
            have z1873 := congrArg Int32.toInt c1871
            rw [show (0 : Int32).toInt = 0 from by decide] at z1873
            refine ev_aload_n rfl rfl rfl ?_
            refine ev_getV (v := f1828) rfl rfl fl_X10_204 rfl rfl rfl ef1828 ?_
            refine ev_iconst (v := 2) rfl rfl (by decide) ?_
            refine ev_icmp_ne rfl rfl (fun c1876 => ?_) (fun c1876 => ?_)
            · have z1877 := w_ne c1876
              rw [show (2 : Int32).toInt = 2 from by decide] at z1877
              refine ev_aload_n rfl rfl rfl ?_
              refine ev_bipush (v := 41) rfl rfl (by decide) ?_
              refine ev_V1P rfl rfl lk_X10_244 vt_X10_isSign rfl rfl rfl rfl rfl (w_X10_isSign_63 L b h1822 hJ1823.1 41) (fun r1880 q1880 => ?_)
              obtain ⟨b1880, pp1880_0⟩ := q1880
              refine ev_if_eq rfl rfl (fun c1881 => ?_) (fun c1881 => ?_)
              · have b1882 : B r1880 0 0 := R_eqX b1880 (by decide : B 0 0 0) c1881
                have z1883 := congrArg Int32.toInt c1881
                rw [show (0 : Int32).toInt = 0 from by decide] at z1883
                refine ev_aload_n rfl rfl rfl ?_
                refine ev_aload_n rfl rfl rfl ?_
                refine ev_getV (v := f1828) rfl rfl fl_X10_204 rfl rfl rfl ef1828 ?_
                refine ev_if_ne rfl rfl (fun c1886 => ?_) (fun c1886 => ?_)
                · have b1887 : B f1828 1 3 := R_neL bf1828 (by decide : B 0 0 0) c1886 (by decide)
                  have z1888 := w_ne c1886
                  rw [show (0 : Int32).toInt = 0 from by decide] at z1888
                  refine ev_iconst (v := 0) rfl rfl (by decide) ?_
                  refine ev_iconst (v := 2) rfl rfl (by decide) ?_
                  refine ev_V2K hJ1823 rfl rfl rfl lk_X10_230 vt_X10_wants rfl rfl rfl rfl rfl (w_X10_wants_63 L b h1822 hJ1823.1 0 ((by decide : B 0 0 0).mono (by decide) (by decide)) 2 ((by decide : B 2 2 2).mono (by decide) (by decide))) (fun h1891 hJ1891 k1891 m1891 => ?_)
                  obtain ⟨f1892, ef1892⟩ : ∃ f_, h1891 63 21 = f_ := ⟨_, rfl⟩
                  have bf1892 : B f1892 0 6 := by have z_ := hJ1891.1 63 21; rw [ef1892] at z_; exact z_
                  have zf1892 := congrArg Int32.toInt ef1892
                  refine ev_iconst (v := 0) rfl rfl (by decide) ?_
                  refine ev_istore_n rfl rfl rfl rfl ?_
                  dsimp only [List.set]
                  refine ev_goto rfl rfl ?_
                  refine ev_iload_n rfl rfl rfl ?_
                  refine ev_if_eq rfl rfl (fun c1893 => ?_) (fun c1893 => absurd (D_eq (by decide : B 0 0 0) (by decide : B 0 0 0)) c1893)
                  have z1894 := congrArg Int32.toInt c1893
                  rw [show (0 : Int32).toInt = 0 from by decide] at z1894
                  refine ev_aload_n rfl rfl rfl ?_
                  refine ev_getV (v := f1892) rfl rfl fl_X10_191 rfl rfl rfl ef1892 ?_
                  refine ev_if_ne rfl rfl (fun c1895 => ?_) (fun c1895 => ?_)
                  · have b1896 : B f1892 1 6 := R_neL bf1892 (by decide : B 0 0 0) c1895 (by decide)
                    have z1897 := w_ne c1895
                    rw [show (0 : Int32).toInt = 0 from by decide] at z1897
                    exact ev_vret rfl rfl trivial ⟨rfl, rfl, hJ1891, (by have z0_ := congrArg Int32.toInt ef1892; have z1_ := congrArg Int32.toInt (rd_w k1891 ef1829 rfl); have z_ := w_lits; have zl_ := l_lits; omega)⟩
                  · have b1898 : B f1892 0 0 := R_eqX bf1892 (by decide : B 0 0 0) c1895
                    have z1899 := congrArg Int32.toInt c1895
                    rw [show (0 : Int32).toInt = 0 from by decide] at z1899
                    refine ev_aload_n rfl rfl rfl ?_
                    refine ev_getW (l := (-2147483648)) (u := 2147483647) hJ1891.1 rfl rfl rfl fl_X10_237 rfl rfl rfl (fun v1900 b1900 e1900 => ?_)
                    refine ev_if_ne rfl rfl (fun c1901 => ?_) (fun c1901 => ?_)
                    · have z1902 := w_ne c1901
                      rw [show (0 : Int32).toInt = 0 from by decide] at z1902
                      refine ev_aload_n rfl rfl rfl ?_
                      refine ev_bipush (v := 6) rfl rfl (by decide) ?_
                      refine ev_iconst (v := 0) rfl rfl (by decide) ?_
                      refine ev_V2K hJ1891 rfl rfl rfl lk_X10_200 vt_X10_fails rfl rfl rfl rfl rfl (w_X10_fails_63 L b h1891 hJ1891.1 6 ((by decide : B 6 6 6).mono (by decide) (by decide)) 0) (fun h1905 hJ1905 k1905 m1905 => ?_)
                      obtain ⟨f1906, ef1906⟩ : ∃ f_, h1905 63 21 = f_ := ⟨_, rfl⟩
                      have bf1906 : B f1906 0 6 := by have z_ := hJ1905.1 63 21; rw [ef1906] at z_; exact z_
                      have zf1906 := congrArg Int32.toInt ef1906
                      exact ev_vret rfl rfl trivial ⟨rfl, rfl, hJ1905, (by have z0_ := congrArg Int32.toInt ef1906; have z1_ := congrArg Int32.toInt (rd_w k1905 (rd_w k1891 ef1829 rfl) rfl); have z_ := w_lits; have zl_ := l_lits; omega)⟩
                    · have b1903 : B v1900 0 0 := R_eqX (B.any v1900) (by decide : B 0 0 0) c1901
                      have z1904 := congrArg Int32.toInt c1901
                      rw [show (0 : Int32).toInt = 0 from by decide] at z1904
                      refine ev_aload_n rfl rfl rfl ?_
                      refine ev_getV (v := f1829) rfl rfl fl_X10_234 rfl rfl rfl (rd_w k1891 ef1829 rfl) ?_
                      refine ev_bipush (v := 24) rfl rfl (by decide) ?_
                      refine ev_icmp_le rfl rfl (fun c1907 => ?_) (fun c1907 => ?_)
                      · have b1908 : B f1829 0 24 := R_leX bf1829 (by decide : B 24 24 24) c1907 (by decide)
                        have z1909 := w_le c1907
                        rw [show (24 : Int32).toInt = 24 from by decide] at z1909
                        exact ev_vret rfl rfl trivial ⟨rfl, rfl, hJ1891, (by have z0_ := congrArg Int32.toInt ef1892; have z1_ := congrArg Int32.toInt (rd_w k1891 ef1829 rfl); have z_ := w_lits; have zl_ := l_lits; omega)⟩
                      · have b1910 : B f1829 25 60 := R_ltY (by decide : B 24 24 24) bf1829 (Int32.not_le.mp c1907) (by decide)
                        have z1911 := w_lt (Int32.not_le.mp c1907)
                        rw [show (24 : Int32).toInt = 24 from by decide] at z1911
                        refine ev_aload_n rfl rfl rfl ?_
                        refine ev_bipush (v := 6) rfl rfl (by decide) ?_
                        refine ev_iconst (v := 0) rfl rfl (by decide) ?_
                        refine ev_V2K hJ1891 rfl rfl rfl lk_X10_200 vt_X10_fails rfl rfl rfl rfl rfl (w_X10_fails_63 L b h1891 hJ1891.1 6 ((by decide : B 6 6 6).mono (by decide) (by decide)) 0) (fun h1912 hJ1912 k1912 m1912 => ?_)
                        obtain ⟨f1913, ef1913⟩ : ∃ f_, h1912 63 21 = f_ := ⟨_, rfl⟩
                        have bf1913 : B f1913 0 6 := by have z_ := hJ1912.1 63 21; rw [ef1913] at z_; exact z_
                        have zf1913 := congrArg Int32.toInt ef1913
                        exact ev_vret rfl rfl trivial ⟨rfl, rfl, hJ1912, (by have z0_ := congrArg Int32.toInt ef1913; have z1_ := congrArg Int32.toInt (rd_w k1912 (rd_w k1891 ef1829 rfl) rfl); have z_ := w_lits; have zl_ := l_lits; omega)⟩
                · have b1889 : B f1828 0 0 := R_eqX bf1828 (by decide : B 0 0 0) c1886
                  have z1890 := congrArg Int32.toInt c1886
                  rw [show (0 : Int32).toInt = 0 from by decide] at z1890
                  refine ev_aload_n rfl rfl rfl ?_
                  refine ev_getV (v := f1830) rfl rfl fl_X10_241 rfl rfl rfl ef1830 ?_
                  refine ev_if_ne rfl rfl (fun c1914 => ?_) (fun c1914 => ?_)
                  · have b1915 : B f1830 1 4 := R_neL bf1830 (by decide : B 0 0 0) c1914 (by decide)
                    have z1916 := w_ne c1914
                    rw [show (0 : Int32).toInt = 0 from by decide] at z1916
                    refine ev_iconst (v := 0) rfl rfl (by decide) ?_
                    refine ev_iconst (v := 2) rfl rfl (by decide) ?_
                    refine ev_V2K hJ1823 rfl rfl rfl lk_X10_230 vt_X10_wants rfl rfl rfl rfl rfl (w_X10_wants_63 L b h1822 hJ1823.1 0 ((by decide : B 0 0 0).mono (by decide) (by decide)) 2 ((by decide : B 2 2 2).mono (by decide) (by decide))) (fun h1919 hJ1919 k1919 m1919 => ?_)
                    obtain ⟨f1920, ef1920⟩ : ∃ f_, h1919 63 21 = f_ := ⟨_, rfl⟩
                    have bf1920 : B f1920 0 6 := by have z_ := hJ1919.1 63 21; rw [ef1920] at z_; exact z_
                    have zf1920 := congrArg Int32.toInt ef1920
                    refine ev_iconst (v := 0) rfl rfl (by decide) ?_
                    refine ev_istore_n rfl rfl rfl rfl ?_
                    dsimp only [List.set]
                    refine ev_goto rfl rfl ?_
                    refine ev_iload_n rfl rfl rfl ?_
                    refine ev_if_eq rfl rfl (fun c1921 => ?_) (fun c1921 => absurd (D_eq (by decide : B 0 0 0) (by decide : B 0 0 0)) c1921)
                    have z1922 := congrArg Int32.toInt c1921
                    rw [show (0 : Int32).toInt = 0 from by decide] at z1922
                    refine ev_aload_n rfl rfl rfl ?_
                    refine ev_getV (v := f1920) rfl rfl fl_X10_191 rfl rfl rfl ef1920 ?_
                    refine ev_if_ne rfl rfl (fun c1923 => ?_) (fun c1923 => ?_)
                    · have b1924 : B f1920 1 6 := R_neL bf1920 (by decide : B 0 0 0) c1923 (by decide)
                      have z1925 := w_ne c1923
                      rw [show (0 : Int32).toInt = 0 from by decide] at z1925
                      exact ev_vret rfl rfl trivial ⟨rfl, rfl, hJ1919, (by have z0_ := congrArg Int32.toInt ef1920; have z1_ := congrArg Int32.toInt (rd_w k1919 ef1829 rfl); have z_ := w_lits; have zl_ := l_lits; omega)⟩
                    · have b1926 : B f1920 0 0 := R_eqX bf1920 (by decide : B 0 0 0) c1923
                      have z1927 := congrArg Int32.toInt c1923
                      rw [show (0 : Int32).toInt = 0 from by decide] at z1927
                      refine ev_aload_n rfl rfl rfl ?_
                      refine ev_getW (l := (-2147483648)) (u := 2147483647) hJ1919.1 rfl rfl rfl fl_X10_237 rfl rfl rfl (fun v1928 b1928 e1928 => ?_)
                      refine ev_if_ne rfl rfl (fun c1929 => ?_) (fun c1929 => ?_)
                      · have z1930 := w_ne c1929
                        rw [show (0 : Int32).toInt = 0 from by decide] at z1930
                        refine ev_aload_n rfl rfl rfl ?_
                        refine ev_bipush (v := 6) rfl rfl (by decide) ?_
                        refine ev_iconst (v := 0) rfl rfl (by decide) ?_
                        refine ev_V2K hJ1919 rfl rfl rfl lk_X10_200 vt_X10_fails rfl rfl rfl rfl rfl (w_X10_fails_63 L b h1919 hJ1919.1 6 ((by decide : B 6 6 6).mono (by decide) (by decide)) 0) (fun h1933 hJ1933 k1933 m1933 => ?_)
                        obtain ⟨f1934, ef1934⟩ : ∃ f_, h1933 63 21 = f_ := ⟨_, rfl⟩
                        have bf1934 : B f1934 0 6 := by have z_ := hJ1933.1 63 21; rw [ef1934] at z_; exact z_
                        have zf1934 := congrArg Int32.toInt ef1934
                        exact ev_vret rfl rfl trivial ⟨rfl, rfl, hJ1933, (by have z0_ := congrArg Int32.toInt ef1934; have z1_ := congrArg Int32.toInt (rd_w k1933 (rd_w k1919 ef1829 rfl) rfl); have z_ := w_lits; have zl_ := l_lits; omega)⟩
                      · have b1931 : B v1928 0 0 := R_eqX (B.any v1928) (by decide : B 0 0 0) c1929
                        have z1932 := congrArg Int32.toInt c1929
                        rw [show (0 : Int32).toInt = 0 from by decide] at z1932
                        refine ev_aload_n rfl rfl rfl ?_
                        refine ev_getV (v := f1829) rfl rfl fl_X10_234 rfl rfl rfl (rd_w k1919 ef1829 rfl) ?_
                        refine ev_bipush (v := 24) rfl rfl (by decide) ?_
                        refine ev_icmp_le rfl rfl (fun c1935 => ?_) (fun c1935 => ?_)
                        · have b1936 : B f1829 0 24 := R_leX bf1829 (by decide : B 24 24 24) c1935 (by decide)
                          have z1937 := w_le c1935
                          rw [show (24 : Int32).toInt = 24 from by decide] at z1937
                          exact ev_vret rfl rfl trivial ⟨rfl, rfl, hJ1919, (by have z0_ := congrArg Int32.toInt ef1920; have z1_ := congrArg Int32.toInt (rd_w k1919 ef1829 rfl); have z_ := w_lits; have zl_ := l_lits; omega)⟩
                        · have b1938 : B f1829 25 60 := R_ltY (by decide : B 24 24 24) bf1829 (Int32.not_le.mp c1935) (by decide)
                          have z1939 := w_lt (Int32.not_le.mp c1935)
                          rw [show (24 : Int32).toInt = 24 from by decide] at z1939
                          refine ev_aload_n rfl rfl rfl ?_
                          refine ev_bipush (v := 6) rfl rfl (by decide) ?_
                          refine ev_iconst (v := 0) rfl rfl (by decide) ?_
                          refine ev_V2K hJ1919 rfl rfl rfl lk_X10_200 vt_X10_fails rfl rfl rfl rfl rfl (w_X10_fails_63 L b h1919 hJ1919.1 6 ((by decide : B 6 6 6).mono (by decide) (by decide)) 0) (fun h1940 hJ1940 k1940 m1940 => ?_)
                          obtain ⟨f1941, ef1941⟩ : ∃ f_, h1940 63 21 = f_ := ⟨_, rfl⟩
                          have bf1941 : B f1941 0 6 := by have z_ := hJ1940.1 63 21; rw [ef1941] at z_; exact z_
                          have zf1941 := congrArg Int32.toInt ef1941
                          exact ev_vret rfl rfl trivial ⟨rfl, rfl, hJ1940, (by have z0_ := congrArg Int32.toInt ef1941; have z1_ := congrArg Int32.toInt (rd_w k1940 (rd_w k1919 ef1829 rfl) rfl); have z_ := w_lits; have zl_ := l_lits; omega)⟩
                  · have b1917 : B f1830 0 0 := R_eqX bf1830 (by decide : B 0 0 0) c1914
                    have z1918 := congrArg Int32.toInt c1914
                    rw [show (0 : Int32).toInt = 0 from by decide] at z1918
                    refine ev_iload_n rfl rfl rfl ?_
                    refine ev_if_ne rfl rfl (fun c1942 => ?_) (fun c1942 => ?_)
                    · have b1943 : B w1818 1 4095 := R_neL b1820 (by decide : B 0 0 0) c1942 (by decide)
                      have z1944 := w_ne c1942
                      rw [show (0 : Int32).toInt = 0 from by decide] at z1944
                      refine ev_iconst (v := 0) rfl rfl (by decide) ?_
                      refine ev_iconst (v := 2) rfl rfl (by decide) ?_
                      refine ev_V2K hJ1823 rfl rfl rfl lk_X10_230 vt_X10_wants rfl rfl rfl rfl rfl (w_X10_wants_63 L b h1822 hJ1823.1 0 ((by decide : B 0 0 0).mono (by decide) (by decide)) 2 ((by decide : B 2 2 2).mono (by decide) (by decide))) (fun h1947 hJ1947 k1947 m1947 => ?_)
                      obtain ⟨f1948, ef1948⟩ : ∃ f_, h1947 63 21 = f_ := ⟨_, rfl⟩
                      have bf1948 : B f1948 0 6 := by have z_ := hJ1947.1 63 21; rw [ef1948] at z_; exact z_
                      have zf1948 := congrArg Int32.toInt ef1948
                      refine ev_iconst (v := 0) rfl rfl (by decide) ?_
                      refine ev_istore_n rfl rfl rfl rfl ?_
                      dsimp only [List.set]
                      refine ev_goto rfl rfl ?_
                      refine ev_iload_n rfl rfl rfl ?_
                      refine ev_if_eq rfl rfl (fun c1949 => ?_) (fun c1949 => absurd (D_eq (by decide : B 0 0 0) (by decide : B 0 0 0)) c1949)
                      have z1950 := congrArg Int32.toInt c1949
                      rw [show (0 : Int32).toInt = 0 from by decide] at z1950
                      refine ev_aload_n rfl rfl rfl ?_
                      refine ev_getV (v := f1948) rfl rfl fl_X10_191 rfl rfl rfl ef1948 ?_
                      refine ev_if_ne rfl rfl (fun c1951 => ?_) (fun c1951 => ?_)
                      · have b1952 : B f1948 1 6 := R_neL bf1948 (by decide : B 0 0 0) c1951 (by decide)
                        have z1953 := w_ne c1951
                        rw [show (0 : Int32).toInt = 0 from by decide] at z1953
                        exact ev_vret rfl rfl trivial ⟨rfl, rfl, hJ1947, (by have z0_ := congrArg Int32.toInt ef1948; have z1_ := congrArg Int32.toInt (rd_w k1947 ef1829 rfl); have z_ := w_lits; have zl_ := l_lits; omega)⟩
                      · have b1954 : B f1948 0 0 := R_eqX bf1948 (by decide : B 0 0 0) c1951
                        have z1955 := congrArg Int32.toInt c1951
                        rw [show (0 : Int32).toInt = 0 from by decide] at z1955
                        refine ev_aload_n rfl rfl rfl ?_
                        refine ev_getW (l := (-2147483648)) (u := 2147483647) hJ1947.1 rfl rfl rfl fl_X10_237 rfl rfl rfl (fun v1956 b1956 e1956 => ?_)
                        refine ev_if_ne rfl rfl (fun c1957 => ?_) (fun c1957 => ?_)
                        · have z1958 := w_ne c1957
                          rw [show (0 : Int32).toInt = 0 from by decide] at z1958
                          refine ev_aload_n rfl rfl rfl ?_
                          refine ev_bipush (v := 6) rfl rfl (by decide) ?_
                          refine ev_iconst (v := 0) rfl rfl (by decide) ?_
                          refine ev_V2K hJ1947 rfl rfl rfl lk_X10_200 vt_X10_fails rfl rfl rfl rfl rfl (w_X10_fails_63 L b h1947 hJ1947.1 6 ((by decide : B 6 6 6).mono (by decide) (by decide)) 0) (fun h1961 hJ1961 k1961 m1961 => ?_)
                          obtain ⟨f1962, ef1962⟩ : ∃ f_, h1961 63 21 = f_ := ⟨_, rfl⟩
                          have bf1962 : B f1962 0 6 := by have z_ := hJ1961.1 63 21; rw [ef1962] at z_; exact z_
                          have zf1962 := congrArg Int32.toInt ef1962
                          exact ev_vret rfl rfl trivial ⟨rfl, rfl, hJ1961, (by have z0_ := congrArg Int32.toInt ef1962; have z1_ := congrArg Int32.toInt (rd_w k1961 (rd_w k1947 ef1829 rfl) rfl); have z_ := w_lits; have zl_ := l_lits; omega)⟩
                        · have b1959 : B v1956 0 0 := R_eqX (B.any v1956) (by decide : B 0 0 0) c1957
                          have z1960 := congrArg Int32.toInt c1957
                          rw [show (0 : Int32).toInt = 0 from by decide] at z1960
                          refine ev_aload_n rfl rfl rfl ?_
                          refine ev_getV (v := f1829) rfl rfl fl_X10_234 rfl rfl rfl (rd_w k1947 ef1829 rfl) ?_
                          refine ev_bipush (v := 24) rfl rfl (by decide) ?_
                          refine ev_icmp_le rfl rfl (fun c1963 => ?_) (fun c1963 => ?_)
                          · have b1964 : B f1829 0 24 := R_leX bf1829 (by decide : B 24 24 24) c1963 (by decide)
                            have z1965 := w_le c1963
                            rw [show (24 : Int32).toInt = 24 from by decide] at z1965
                            exact ev_vret rfl rfl trivial ⟨rfl, rfl, hJ1947, (by have z0_ := congrArg Int32.toInt ef1948; have z1_ := congrArg Int32.toInt (rd_w k1947 ef1829 rfl); have z_ := w_lits; have zl_ := l_lits; omega)⟩
                          · have b1966 : B f1829 25 60 := R_ltY (by decide : B 24 24 24) bf1829 (Int32.not_le.mp c1963) (by decide)
                            have z1967 := w_lt (Int32.not_le.mp c1963)
                            rw [show (24 : Int32).toInt = 24 from by decide] at z1967
                            refine ev_aload_n rfl rfl rfl ?_
                            refine ev_bipush (v := 6) rfl rfl (by decide) ?_
                            refine ev_iconst (v := 0) rfl rfl (by decide) ?_
                            refine ev_V2K hJ1947 rfl rfl rfl lk_X10_200 vt_X10_fails rfl rfl rfl rfl rfl (w_X10_fails_63 L b h1947 hJ1947.1 6 ((by decide : B 6 6 6).mono (by decide) (by decide)) 0) (fun h1968 hJ1968 k1968 m1968 => ?_)
                            obtain ⟨f1969, ef1969⟩ : ∃ f_, h1968 63 21 = f_ := ⟨_, rfl⟩
                            have bf1969 : B f1969 0 6 := by have z_ := hJ1968.1 63 21; rw [ef1969] at z_; exact z_
                            have zf1969 := congrArg Int32.toInt ef1969
                            exact ev_vret rfl rfl trivial ⟨rfl, rfl, hJ1968, (by have z0_ := congrArg Int32.toInt ef1969; have z1_ := congrArg Int32.toInt (rd_w k1968 (rd_w k1947 ef1829 rfl) rfl); have z_ := w_lits; have zl_ := l_lits; omega)⟩
                    · have b1945 : B w1818 0 0 := R_eqX b1820 (by decide : B 0 0 0) c1942
                      have z1946 := congrArg Int32.toInt c1942
                      rw [show (0 : Int32).toInt = 0 from by decide] at z1946
                      refine ev_iconst (v := 1) rfl rfl (by decide) ?_
                      refine ev_goto rfl rfl ?_
                      refine ev_iconst (v := 2) rfl rfl (by decide) ?_
                      refine ev_V2K hJ1823 rfl rfl rfl lk_X10_230 vt_X10_wants rfl rfl rfl rfl rfl (w_X10_wants_63 L b h1822 hJ1823.1 1 ((by decide : B 1 1 1).mono (by decide) (by decide)) 2 ((by decide : B 2 2 2).mono (by decide) (by decide))) (fun h1970 hJ1970 k1970 m1970 => ?_)
                      obtain ⟨f1971, ef1971⟩ : ∃ f_, h1970 63 21 = f_ := ⟨_, rfl⟩
                      have bf1971 : B f1971 0 6 := by have z_ := hJ1970.1 63 21; rw [ef1971] at z_; exact z_
                      have zf1971 := congrArg Int32.toInt ef1971
                      refine ev_iconst (v := 0) rfl rfl (by decide) ?_
                      refine ev_istore_n rfl rfl rfl rfl ?_
                      dsimp only [List.set]
                      refine ev_goto rfl rfl ?_
                      refine ev_iload_n rfl rfl rfl ?_
                      refine ev_if_eq rfl rfl (fun c1972 => ?_) (fun c1972 => absurd (D_eq (by decide : B 0 0 0) (by decide : B 0 0 0)) c1972)
                      have z1973 := congrArg Int32.toInt c1972
                      rw [show (0 : Int32).toInt = 0 from by decide] at z1973
                      refine ev_aload_n rfl rfl rfl ?_
                      refine ev_getV (v := f1971) rfl rfl fl_X10_191 rfl rfl rfl ef1971 ?_
                      refine ev_if_ne rfl rfl (fun c1974 => ?_) (fun c1974 => ?_)
                      · have b1975 : B f1971 1 6 := R_neL bf1971 (by decide : B 0 0 0) c1974 (by decide)
                        have z1976 := w_ne c1974
                        rw [show (0 : Int32).toInt = 0 from by decide] at z1976
                        exact ev_vret rfl rfl trivial ⟨rfl, rfl, hJ1970, (by have z0_ := congrArg Int32.toInt ef1971; have z1_ := congrArg Int32.toInt (rd_w k1970 ef1829 rfl); have z_ := w_lits; have zl_ := l_lits; omega)⟩
                      · have b1977 : B f1971 0 0 := R_eqX bf1971 (by decide : B 0 0 0) c1974
                        have z1978 := congrArg Int32.toInt c1974
                        rw [show (0 : Int32).toInt = 0 from by decide] at z1978
                        refine ev_aload_n rfl rfl rfl ?_
                        refine ev_getW (l := (-2147483648)) (u := 2147483647) hJ1970.1 rfl rfl rfl fl_X10_237 rfl rfl rfl (fun v1979 b1979 e1979 => ?_)
                        refine ev_if_ne rfl rfl (fun c1980 => ?_) (fun c1980 => ?_)
                        · have z1981 := w_ne c1980
                          rw [show (0 : Int32).toInt = 0 from by decide] at z1981
                          refine ev_aload_n rfl rfl rfl ?_
                          refine ev_bipush (v := 6) rfl rfl (by decide) ?_
                          refine ev_iconst (v := 0) rfl rfl (by decide) ?_
                          refine ev_V2K hJ1970 rfl rfl rfl lk_X10_200 vt_X10_fails rfl rfl rfl rfl rfl (w_X10_fails_63 L b h1970 hJ1970.1 6 ((by decide : B 6 6 6).mono (by decide) (by decide)) 0) (fun h1984 hJ1984 k1984 m1984 => ?_)
                          obtain ⟨f1985, ef1985⟩ : ∃ f_, h1984 63 21 = f_ := ⟨_, rfl⟩
                          have bf1985 : B f1985 0 6 := by have z_ := hJ1984.1 63 21; rw [ef1985] at z_; exact z_
                          have zf1985 := congrArg Int32.toInt ef1985
                          exact ev_vret rfl rfl trivial ⟨rfl, rfl, hJ1984, (by have z0_ := congrArg Int32.toInt ef1985; have z1_ := congrArg Int32.toInt (rd_w k1984 (rd_w k1970 ef1829 rfl) rfl); have z_ := w_lits; have zl_ := l_lits; omega)⟩
                        · have b1982 : B v1979 0 0 := R_eqX (B.any v1979) (by decide : B 0 0 0) c1980
                          have z1983 := congrArg Int32.toInt c1980
                          rw [show (0 : Int32).toInt = 0 from by decide] at z1983
                          refine ev_aload_n rfl rfl rfl ?_
                          refine ev_getV (v := f1829) rfl rfl fl_X10_234 rfl rfl rfl (rd_w k1970 ef1829 rfl) ?_
                          refine ev_bipush (v := 24) rfl rfl (by decide) ?_
                          refine ev_icmp_le rfl rfl (fun c1986 => ?_) (fun c1986 => ?_)
                          · have b1987 : B f1829 0 24 := R_leX bf1829 (by decide : B 24 24 24) c1986 (by decide)
                            have z1988 := w_le c1986
                            rw [show (24 : Int32).toInt = 24 from by decide] at z1988
                            exact ev_vret rfl rfl trivial ⟨rfl, rfl, hJ1970, (by have z0_ := congrArg Int32.toInt ef1971; have z1_ := congrArg Int32.toInt (rd_w k1970 ef1829 rfl); have z_ := w_lits; have zl_ := l_lits; omega)⟩
                          · have b1989 : B f1829 25 60 := R_ltY (by decide : B 24 24 24) bf1829 (Int32.not_le.mp c1986) (by decide)
                            have z1990 := w_lt (Int32.not_le.mp c1986)
                            rw [show (24 : Int32).toInt = 24 from by decide] at z1990
                            refine ev_aload_n rfl rfl rfl ?_
                            refine ev_bipush (v := 6) rfl rfl (by decide) ?_
                            refine ev_iconst (v := 0) rfl rfl (by decide) ?_
                            refine ev_V2K hJ1970 rfl rfl rfl lk_X10_200 vt_X10_fails rfl rfl rfl rfl rfl (w_X10_fails_63 L b h1970 hJ1970.1 6 ((by decide : B 6 6 6).mono (by decide) (by decide)) 0) (fun h1991 hJ1991 k1991 m1991 => ?_)
                            obtain ⟨f1992, ef1992⟩ : ∃ f_, h1991 63 21 = f_ := ⟨_, rfl⟩
                            have bf1992 : B f1992 0 6 := by have z_ := hJ1991.1 63 21; rw [ef1992] at z_; exact z_
                            have zf1992 := congrArg Int32.toInt ef1992
                            exact ev_vret rfl rfl trivial ⟨rfl, rfl, hJ1991, (by have z0_ := congrArg Int32.toInt ef1992; have z1_ := congrArg Int32.toInt (rd_w k1991 (rd_w k1970 ef1829 rfl) rfl); have z_ := w_lits; have zl_ := l_lits; omega)⟩
              · have b1884 : B r1880 1 1 := R_neL b1880 (by decide : B 0 0 0) c1881 (by decide)
                have z1885 := w_ne c1881
                rw [show (0 : Int32).toInt = 0 from by decide] at z1885
                refine ev_aload_n rfl rfl rfl ?_
                refine ev_getV (v := f1830) rfl rfl fl_X10_241 rfl rfl rfl ef1830 ?_
                refine ev_if_le rfl rfl (fun c1993 => ?_) (fun c1993 => ?_)
                · have b1994 : B f1830 0 0 := R_leX bf1830 (by decide : B 0 0 0) c1993 (by decide)
                  have z1995 := w_le c1993
                  rw [show (0 : Int32).toInt = 0 from by decide] at z1995
                  refine ev_aload_n rfl rfl rfl ?_
                  refine ev_aload_n rfl rfl rfl ?_
                  refine ev_getV (v := f1828) rfl rfl fl_X10_204 rfl rfl rfl ef1828 ?_
                  refine ev_if_ne rfl rfl (fun c1998 => ?_) (fun c1998 => ?_)
                  · have b1999 : B f1828 1 3 := R_neL bf1828 (by decide : B 0 0 0) c1998 (by decide)
                    have z2000 := w_ne c1998
                    rw [show (0 : Int32).toInt = 0 from by decide] at z2000
                    refine ev_iconst (v := 0) rfl rfl (by decide) ?_
                    refine ev_iconst (v := 2) rfl rfl (by decide) ?_
                    refine ev_V2K hJ1823 rfl rfl rfl lk_X10_230 vt_X10_wants rfl rfl rfl rfl rfl (w_X10_wants_63 L b h1822 hJ1823.1 0 ((by decide : B 0 0 0).mono (by decide) (by decide)) 2 ((by decide : B 2 2 2).mono (by decide) (by decide))) (fun h2003 hJ2003 k2003 m2003 => ?_)
                    obtain ⟨f2004, ef2004⟩ : ∃ f_, h2003 63 21 = f_ := ⟨_, rfl⟩
                    have bf2004 : B f2004 0 6 := by have z_ := hJ2003.1 63 21; rw [ef2004] at z_; exact z_
                    have zf2004 := congrArg Int32.toInt ef2004
                    refine ev_iconst (v := 0) rfl rfl (by decide) ?_
                    refine ev_istore_n rfl rfl rfl rfl ?_
                    dsimp only [List.set]
                    refine ev_goto rfl rfl ?_
                    refine ev_iload_n rfl rfl rfl ?_
                    refine ev_if_eq rfl rfl (fun c2005 => ?_) (fun c2005 => absurd (D_eq (by decide : B 0 0 0) (by decide : B 0 0 0)) c2005)
                    have z2006 := congrArg Int32.toInt c2005
                    rw [show (0 : Int32).toInt = 0 from by decide] at z2006
                    refine ev_aload_n rfl rfl rfl ?_
                    refine ev_getV (v := f2004) rfl rfl fl_X10_191 rfl rfl rfl ef2004 ?_
                    refine ev_if_ne rfl rfl (fun c2007 => ?_) (fun c2007 => ?_)
                    · have b2008 : B f2004 1 6 := R_neL bf2004 (by decide : B 0 0 0) c2007 (by decide)
                      have z2009 := w_ne c2007
                      rw [show (0 : Int32).toInt = 0 from by decide] at z2009
                      exact ev_vret rfl rfl trivial ⟨rfl, rfl, hJ2003, (by have z0_ := congrArg Int32.toInt ef2004; have z1_ := congrArg Int32.toInt (rd_w k2003 ef1829 rfl); have z_ := w_lits; have zl_ := l_lits; omega)⟩
                    · have b2010 : B f2004 0 0 := R_eqX bf2004 (by decide : B 0 0 0) c2007
                      have z2011 := congrArg Int32.toInt c2007
                      rw [show (0 : Int32).toInt = 0 from by decide] at z2011
                      refine ev_aload_n rfl rfl rfl ?_
                      refine ev_getW (l := (-2147483648)) (u := 2147483647) hJ2003.1 rfl rfl rfl fl_X10_237 rfl rfl rfl (fun v2012 b2012 e2012 => ?_)
                      refine ev_if_ne rfl rfl (fun c2013 => ?_) (fun c2013 => ?_)
                      · have z2014 := w_ne c2013
                        rw [show (0 : Int32).toInt = 0 from by decide] at z2014
                        refine ev_aload_n rfl rfl rfl ?_
                        refine ev_bipush (v := 6) rfl rfl (by decide) ?_
                        refine ev_iconst (v := 0) rfl rfl (by decide) ?_
                        refine ev_V2K hJ2003 rfl rfl rfl lk_X10_200 vt_X10_fails rfl rfl rfl rfl rfl (w_X10_fails_63 L b h2003 hJ2003.1 6 ((by decide : B 6 6 6).mono (by decide) (by decide)) 0) (fun h2017 hJ2017 k2017 m2017 => ?_)
                        obtain ⟨f2018, ef2018⟩ : ∃ f_, h2017 63 21 = f_ := ⟨_, rfl⟩
                        have bf2018 : B f2018 0 6 := by have z_ := hJ2017.1 63 21; rw [ef2018] at z_; exact z_
                        have zf2018 := congrArg Int32.toInt ef2018
                        exact ev_vret rfl rfl trivial ⟨rfl, rfl, hJ2017, (by have z0_ := congrArg Int32.toInt ef2018; have z1_ := congrArg Int32.toInt (rd_w k2017 (rd_w k2003 ef1829 rfl) rfl); have z_ := w_lits; have zl_ := l_lits; omega)⟩
                      · have b2015 : B v2012 0 0 := R_eqX (B.any v2012) (by decide : B 0 0 0) c2013
                        have z2016 := congrArg Int32.toInt c2013
                        rw [show (0 : Int32).toInt = 0 from by decide] at z2016
                        refine ev_aload_n rfl rfl rfl ?_
                        refine ev_getV (v := f1829) rfl rfl fl_X10_234 rfl rfl rfl (rd_w k2003 ef1829 rfl) ?_
                        refine ev_bipush (v := 24) rfl rfl (by decide) ?_
                        refine ev_icmp_le rfl rfl (fun c2019 => ?_) (fun c2019 => ?_)
                        · have b2020 : B f1829 0 24 := R_leX bf1829 (by decide : B 24 24 24) c2019 (by decide)
                          have z2021 := w_le c2019
                          rw [show (24 : Int32).toInt = 24 from by decide] at z2021
                          exact ev_vret rfl rfl trivial ⟨rfl, rfl, hJ2003, (by have z0_ := congrArg Int32.toInt ef2004; have z1_ := congrArg Int32.toInt (rd_w k2003 ef1829 rfl); have z_ := w_lits; have zl_ := l_lits; omega)⟩
                        · have b2022 : B f1829 25 60 := R_ltY (by decide : B 24 24 24) bf1829 (Int32.not_le.mp c2019) (by decide)
                          have z2023 := w_lt (Int32.not_le.mp c2019)
                          rw [show (24 : Int32).toInt = 24 from by decide] at z2023
                          refine ev_aload_n rfl rfl rfl ?_
                          refine ev_bipush (v := 6) rfl rfl (by decide) ?_
                          refine ev_iconst (v := 0) rfl rfl (by decide) ?_
                          refine ev_V2K hJ2003 rfl rfl rfl lk_X10_200 vt_X10_fails rfl rfl rfl rfl rfl (w_X10_fails_63 L b h2003 hJ2003.1 6 ((by decide : B 6 6 6).mono (by decide) (by decide)) 0) (fun h2024 hJ2024 k2024 m2024 => ?_)
                          obtain ⟨f2025, ef2025⟩ : ∃ f_, h2024 63 21 = f_ := ⟨_, rfl⟩
                          have bf2025 : B f2025 0 6 := by have z_ := hJ2024.1 63 21; rw [ef2025] at z_; exact z_
                          have zf2025 := congrArg Int32.toInt ef2025
                          exact ev_vret rfl rfl trivial ⟨rfl, rfl, hJ2024, (by have z0_ := congrArg Int32.toInt ef2025; have z1_ := congrArg Int32.toInt (rd_w k2024 (rd_w k2003 ef1829 rfl) rfl); have z_ := w_lits; have zl_ := l_lits; omega)⟩
                  · have b2001 : B f1828 0 0 := R_eqX bf1828 (by decide : B 0 0 0) c1998
                    have z2002 := congrArg Int32.toInt c1998
                    rw [show (0 : Int32).toInt = 0 from by decide] at z2002
                    refine ev_aload_n rfl rfl rfl ?_
                    refine ev_getV (v := f1830) rfl rfl fl_X10_241 rfl rfl rfl ef1830 ?_
                    refine ev_if_ne rfl rfl (fun c2026 => absurd (D_eq b1994 (by decide : B 0 0 0)) c2026) (fun c2026 => ?_)
                    have z2027 := congrArg Int32.toInt c2026
                    rw [show (0 : Int32).toInt = 0 from by decide] at z2027
                    refine ev_iload_n rfl rfl rfl ?_
                    refine ev_if_ne rfl rfl (fun c2028 => ?_) (fun c2028 => ?_)
                    · have b2029 : B w1818 1 4095 := R_neL b1820 (by decide : B 0 0 0) c2028 (by decide)
                      have z2030 := w_ne c2028
                      rw [show (0 : Int32).toInt = 0 from by decide] at z2030
                      refine ev_iconst (v := 0) rfl rfl (by decide) ?_
                      refine ev_iconst (v := 2) rfl rfl (by decide) ?_
                      refine ev_V2K hJ1823 rfl rfl rfl lk_X10_230 vt_X10_wants rfl rfl rfl rfl rfl (w_X10_wants_63 L b h1822 hJ1823.1 0 ((by decide : B 0 0 0).mono (by decide) (by decide)) 2 ((by decide : B 2 2 2).mono (by decide) (by decide))) (fun h2033 hJ2033 k2033 m2033 => ?_)
                      obtain ⟨f2034, ef2034⟩ : ∃ f_, h2033 63 21 = f_ := ⟨_, rfl⟩
                      have bf2034 : B f2034 0 6 := by have z_ := hJ2033.1 63 21; rw [ef2034] at z_; exact z_
                      have zf2034 := congrArg Int32.toInt ef2034
                      refine ev_iconst (v := 0) rfl rfl (by decide) ?_
                      refine ev_istore_n rfl rfl rfl rfl ?_
                      dsimp only [List.set]
                      refine ev_goto rfl rfl ?_
                      refine ev_iload_n rfl rfl rfl ?_
                      refine ev_if_eq rfl rfl (fun c2035 => ?_) (fun c2035 => absurd (D_eq (by decide : B 0 0 0) (by decide : B 0 0 0)) c2035)
                      have z2036 := congrArg Int32.toInt c2035
                      rw [show (0 : Int32).toInt = 0 from by decide] at z2036
                      refine ev_aload_n rfl rfl rfl ?_
                      refine ev_getV (v := f2034) rfl rfl fl_X10_191 rfl rfl rfl ef2034 ?_
                      refine ev_if_ne rfl rfl (fun c2037 => ?_) (fun c2037 => ?_)
                      · have b2038 : B f2034 1 6 := R_neL bf2034 (by decide : B 0 0 0) c2037 (by decide)
                        have z2039 := w_ne c2037
                        rw [show (0 : Int32).toInt = 0 from by decide] at z2039
                        exact ev_vret rfl rfl trivial ⟨rfl, rfl, hJ2033, (by have z0_ := congrArg Int32.toInt ef2034; have z1_ := congrArg Int32.toInt (rd_w k2033 ef1829 rfl); have z_ := w_lits; have zl_ := l_lits; omega)⟩
                      · have b2040 : B f2034 0 0 := R_eqX bf2034 (by decide : B 0 0 0) c2037
                        have z2041 := congrArg Int32.toInt c2037
                        rw [show (0 : Int32).toInt = 0 from by decide] at z2041
                        refine ev_aload_n rfl rfl rfl ?_
                        refine ev_getW (l := (-2147483648)) (u := 2147483647) hJ2033.1 rfl rfl rfl fl_X10_237 rfl rfl rfl (fun v2042 b2042 e2042 => ?_)
                        refine ev_if_ne rfl rfl (fun c2043 => ?_) (fun c2043 => ?_)
                        · have z2044 := w_ne c2043
                          rw [show (0 : Int32).toInt = 0 from by decide] at z2044
                          refine ev_aload_n rfl rfl rfl ?_
                          refine ev_bipush (v := 6) rfl rfl (by decide) ?_
                          refine ev_iconst (v := 0) rfl rfl (by decide) ?_
                          refine ev_V2K hJ2033 rfl rfl rfl lk_X10_200 vt_X10_fails rfl rfl rfl rfl rfl (w_X10_fails_63 L b h2033 hJ2033.1 6 ((by decide : B 6 6 6).mono (by decide) (by decide)) 0) (fun h2047 hJ2047 k2047 m2047 => ?_)
                          obtain ⟨f2048, ef2048⟩ : ∃ f_, h2047 63 21 = f_ := ⟨_, rfl⟩
                          have bf2048 : B f2048 0 6 := by have z_ := hJ2047.1 63 21; rw [ef2048] at z_; exact z_
                          have zf2048 := congrArg Int32.toInt ef2048
                          exact ev_vret rfl rfl trivial ⟨rfl, rfl, hJ2047, (by have z0_ := congrArg Int32.toInt ef2048; have z1_ := congrArg Int32.toInt (rd_w k2047 (rd_w k2033 ef1829 rfl) rfl); have z_ := w_lits; have zl_ := l_lits; omega)⟩
                        · have b2045 : B v2042 0 0 := R_eqX (B.any v2042) (by decide : B 0 0 0) c2043
                          have z2046 := congrArg Int32.toInt c2043
                          rw [show (0 : Int32).toInt = 0 from by decide] at z2046
                          refine ev_aload_n rfl rfl rfl ?_
                          refine ev_getV (v := f1829) rfl rfl fl_X10_234 rfl rfl rfl (rd_w k2033 ef1829 rfl) ?_
                          refine ev_bipush (v := 24) rfl rfl (by decide) ?_
                          refine ev_icmp_le rfl rfl (fun c2049 => ?_) (fun c2049 => ?_)
                          · have b2050 : B f1829 0 24 := R_leX bf1829 (by decide : B 24 24 24) c2049 (by decide)
                            have z2051 := w_le c2049
                            rw [show (24 : Int32).toInt = 24 from by decide] at z2051
                            exact ev_vret rfl rfl trivial ⟨rfl, rfl, hJ2033, (by have z0_ := congrArg Int32.toInt ef2034; have z1_ := congrArg Int32.toInt (rd_w k2033 ef1829 rfl); have z_ := w_lits; have zl_ := l_lits; omega)⟩
                          · have b2052 : B f1829 25 60 := R_ltY (by decide : B 24 24 24) bf1829 (Int32.not_le.mp c2049) (by decide)
                            have z2053 := w_lt (Int32.not_le.mp c2049)
                            rw [show (24 : Int32).toInt = 24 from by decide] at z2053
                            refine ev_aload_n rfl rfl rfl ?_
                            refine ev_bipush (v := 6) rfl rfl (by decide) ?_
                            refine ev_iconst (v := 0) rfl rfl (by decide) ?_
                            refine ev_V2K hJ2033 rfl rfl rfl lk_X10_200 vt_X10_fails rfl rfl rfl rfl rfl (w_X10_fails_63 L b h2033 hJ2033.1 6 ((by decide : B 6 6 6).mono (by decide) (by decide)) 0) (fun h2054 hJ2054 k2054 m2054 => ?_)
                            obtain ⟨f2055, ef2055⟩ : ∃ f_, h2054 63 21 = f_ := ⟨_, rfl⟩
                            have bf2055 : B f2055 0 6 := by have z_ := hJ2054.1 63 21; rw [ef2055] at z_; exact z_
                            have zf2055 := congrArg Int32.toInt ef2055
                            exact ev_vret rfl rfl trivial ⟨rfl, rfl, hJ2054, (by have z0_ := congrArg Int32.toInt ef2055; have z1_ := congrArg Int32.toInt (rd_w k2054 (rd_w k2033 ef1829 rfl) rfl); have z_ := w_lits; have zl_ := l_lits; omega)⟩
                    · have b2031 : B w1818 0 0 := R_eqX b1820 (by decide : B 0 0 0) c2028
                      have z2032 := congrArg Int32.toInt c2028
                      rw [show (0 : Int32).toInt = 0 from by decide] at z2032
                      refine ev_iconst (v := 1) rfl rfl (by decide) ?_
                      refine ev_goto rfl rfl ?_
                      refine ev_iconst (v := 2) rfl rfl (by decide) ?_
                      refine ev_V2K hJ1823 rfl rfl rfl lk_X10_230 vt_X10_wants rfl rfl rfl rfl rfl (w_X10_wants_63 L b h1822 hJ1823.1 1 ((by decide : B 1 1 1).mono (by decide) (by decide)) 2 ((by decide : B 2 2 2).mono (by decide) (by decide))) (fun h2056 hJ2056 k2056 m2056 => ?_)
                      obtain ⟨f2057, ef2057⟩ : ∃ f_, h2056 63 21 = f_ := ⟨_, rfl⟩
                      have bf2057 : B f2057 0 6 := by have z_ := hJ2056.1 63 21; rw [ef2057] at z_; exact z_
                      have zf2057 := congrArg Int32.toInt ef2057
                      refine ev_iconst (v := 0) rfl rfl (by decide) ?_
                      refine ev_istore_n rfl rfl rfl rfl ?_
                      dsimp only [List.set]
                      refine ev_goto rfl rfl ?_
                      refine ev_iload_n rfl rfl rfl ?_
                      refine ev_if_eq rfl rfl (fun c2058 => ?_) (fun c2058 => absurd (D_eq (by decide : B 0 0 0) (by decide : B 0 0 0)) c2058)
                      have z2059 := congrArg Int32.toInt c2058
                      rw [show (0 : Int32).toInt = 0 from by decide] at z2059
                      refine ev_aload_n rfl rfl rfl ?_
                      refine ev_getV (v := f2057) rfl rfl fl_X10_191 rfl rfl rfl ef2057 ?_
                      refine ev_if_ne rfl rfl (fun c2060 => ?_) (fun c2060 => ?_)
                      · have b2061 : B f2057 1 6 := R_neL bf2057 (by decide : B 0 0 0) c2060 (by decide)
                        have z2062 := w_ne c2060
                        rw [show (0 : Int32).toInt = 0 from by decide] at z2062
                        exact ev_vret rfl rfl trivial ⟨rfl, rfl, hJ2056, (by have z0_ := congrArg Int32.toInt ef2057; have z1_ := congrArg Int32.toInt (rd_w k2056 ef1829 rfl); have z_ := w_lits; have zl_ := l_lits; omega)⟩
                      · have b2063 : B f2057 0 0 := R_eqX bf2057 (by decide : B 0 0 0) c2060
                        have z2064 := congrArg Int32.toInt c2060
                        rw [show (0 : Int32).toInt = 0 from by decide] at z2064
                        refine ev_aload_n rfl rfl rfl ?_
                        refine ev_getW (l := (-2147483648)) (u := 2147483647) hJ2056.1 rfl rfl rfl fl_X10_237 rfl rfl rfl (fun v2065 b2065 e2065 => ?_)
                        refine ev_if_ne rfl rfl (fun c2066 => ?_) (fun c2066 => ?_)
                        · have z2067 := w_ne c2066
                          rw [show (0 : Int32).toInt = 0 from by decide] at z2067
                          refine ev_aload_n rfl rfl rfl ?_
                          refine ev_bipush (v := 6) rfl rfl (by decide) ?_
                          refine ev_iconst (v := 0) rfl rfl (by decide) ?_
                          refine ev_V2K hJ2056 rfl rfl rfl lk_X10_200 vt_X10_fails rfl rfl rfl rfl rfl (w_X10_fails_63 L b h2056 hJ2056.1 6 ((by decide : B 6 6 6).mono (by decide) (by decide)) 0) (fun h2070 hJ2070 k2070 m2070 => ?_)
                          obtain ⟨f2071, ef2071⟩ : ∃ f_, h2070 63 21 = f_ := ⟨_, rfl⟩
                          have bf2071 : B f2071 0 6 := by have z_ := hJ2070.1 63 21; rw [ef2071] at z_; exact z_
                          have zf2071 := congrArg Int32.toInt ef2071
                          exact ev_vret rfl rfl trivial ⟨rfl, rfl, hJ2070, (by have z0_ := congrArg Int32.toInt ef2071; have z1_ := congrArg Int32.toInt (rd_w k2070 (rd_w k2056 ef1829 rfl) rfl); have z_ := w_lits; have zl_ := l_lits; omega)⟩
                        · have b2068 : B v2065 0 0 := R_eqX (B.any v2065) (by decide : B 0 0 0) c2066
                          have z2069 := congrArg Int32.toInt c2066
                          rw [show (0 : Int32).toInt = 0 from by decide] at z2069
                          refine ev_aload_n rfl rfl rfl ?_
                          refine ev_getV (v := f1829) rfl rfl fl_X10_234 rfl rfl rfl (rd_w k2056 ef1829 rfl) ?_
                          refine ev_bipush (v := 24) rfl rfl (by decide) ?_
                          refine ev_icmp_le rfl rfl (fun c2072 => ?_) (fun c2072 => ?_)
                          · have b2073 : B f1829 0 24 := R_leX bf1829 (by decide : B 24 24 24) c2072 (by decide)
                            have z2074 := w_le c2072
                            rw [show (24 : Int32).toInt = 24 from by decide] at z2074
                            exact ev_vret rfl rfl trivial ⟨rfl, rfl, hJ2056, (by have z0_ := congrArg Int32.toInt ef2057; have z1_ := congrArg Int32.toInt (rd_w k2056 ef1829 rfl); have z_ := w_lits; have zl_ := l_lits; omega)⟩
                          · have b2075 : B f1829 25 60 := R_ltY (by decide : B 24 24 24) bf1829 (Int32.not_le.mp c2072) (by decide)
                            have z2076 := w_lt (Int32.not_le.mp c2072)
                            rw [show (24 : Int32).toInt = 24 from by decide] at z2076
                            refine ev_aload_n rfl rfl rfl ?_
                            refine ev_bipush (v := 6) rfl rfl (by decide) ?_
                            refine ev_iconst (v := 0) rfl rfl (by decide) ?_
                            refine ev_V2K hJ2056 rfl rfl rfl lk_X10_200 vt_X10_fails rfl rfl rfl rfl rfl (w_X10_fails_63 L b h2056 hJ2056.1 6 ((by decide : B 6 6 6).mono (by decide) (by decide)) 0) (fun h2077 hJ2077 k2077 m2077 => ?_)
                            obtain ⟨f2078, ef2078⟩ : ∃ f_, h2077 63 21 = f_ := ⟨_, rfl⟩
                            have bf2078 : B f2078 0 6 := by have z_ := hJ2077.1 63 21; rw [ef2078] at z_; exact z_
                            have zf2078 := congrArg Int32.toInt ef2078
                            exact ev_vret rfl rfl trivial ⟨rfl, rfl, hJ2077, (by have z0_ := congrArg Int32.toInt ef2078; have z1_ := congrArg Int32.toInt (rd_w k2077 (rd_w k2056 ef1829 rfl) rfl); have z_ := w_lits; have zl_ := l_lits; omega)⟩
                · have b1996 : B f1830 1 4 := R_ltY (by decide : B 0 0 0) bf1830 (Int32.not_le.mp c1993) (by decide)
                  have z1997 := w_lt (Int32.not_le.mp c1993)
                  rw [show (0 : Int32).toInt = 0 from by decide] at z1997
                  refine ev_iload_n rfl rfl rfl ?_
                  refine ev_if_ne rfl rfl (fun c2079 => ?_) (fun c2079 => ?_)
                  · have b2080 : B w1818 1 4095 := R_neL b1820 (by decide : B 0 0 0) c2079 (by decide)
                    have z2081 := w_ne c2079
                    rw [show (0 : Int32).toInt = 0 from by decide] at z2081
                    refine ev_aload_n rfl rfl rfl ?_
                    refine ev_aload_n rfl rfl rfl ?_
                    refine ev_getV (v := f1828) rfl rfl fl_X10_204 rfl rfl rfl ef1828 ?_
                    refine ev_if_ne rfl rfl (fun c2084 => ?_) (fun c2084 => ?_)
                    · have b2085 : B f1828 1 3 := R_neL bf1828 (by decide : B 0 0 0) c2084 (by decide)
                      have z2086 := w_ne c2084
                      rw [show (0 : Int32).toInt = 0 from by decide] at z2086
                      refine ev_iconst (v := 0) rfl rfl (by decide) ?_
                      refine ev_iconst (v := 2) rfl rfl (by decide) ?_
                      refine ev_V2K hJ1823 rfl rfl rfl lk_X10_230 vt_X10_wants rfl rfl rfl rfl rfl (w_X10_wants_63 L b h1822 hJ1823.1 0 ((by decide : B 0 0 0).mono (by decide) (by decide)) 2 ((by decide : B 2 2 2).mono (by decide) (by decide))) (fun h2089 hJ2089 k2089 m2089 => ?_)
                      obtain ⟨f2090, ef2090⟩ : ∃ f_, h2089 63 21 = f_ := ⟨_, rfl⟩
                      have bf2090 : B f2090 0 6 := by have z_ := hJ2089.1 63 21; rw [ef2090] at z_; exact z_
                      have zf2090 := congrArg Int32.toInt ef2090
                      refine ev_iconst (v := 0) rfl rfl (by decide) ?_
                      refine ev_istore_n rfl rfl rfl rfl ?_
                      dsimp only [List.set]
                      refine ev_goto rfl rfl ?_
                      refine ev_iload_n rfl rfl rfl ?_
                      refine ev_if_eq rfl rfl (fun c2091 => ?_) (fun c2091 => absurd (D_eq (by decide : B 0 0 0) (by decide : B 0 0 0)) c2091)
                      have z2092 := congrArg Int32.toInt c2091
                      rw [show (0 : Int32).toInt = 0 from by decide] at z2092
                      refine ev_aload_n rfl rfl rfl ?_
                      refine ev_getV (v := f2090) rfl rfl fl_X10_191 rfl rfl rfl ef2090 ?_
                      refine ev_if_ne rfl rfl (fun c2093 => ?_) (fun c2093 => ?_)
                      · have b2094 : B f2090 1 6 := R_neL bf2090 (by decide : B 0 0 0) c2093 (by decide)
                        have z2095 := w_ne c2093
                        rw [show (0 : Int32).toInt = 0 from by decide] at z2095
                        exact ev_vret rfl rfl trivial ⟨rfl, rfl, hJ2089, (by have z0_ := congrArg Int32.toInt ef2090; have z1_ := congrArg Int32.toInt (rd_w k2089 ef1829 rfl); have z_ := w_lits; have zl_ := l_lits; omega)⟩
                      · have b2096 : B f2090 0 0 := R_eqX bf2090 (by decide : B 0 0 0) c2093
                        have z2097 := congrArg Int32.toInt c2093
                        rw [show (0 : Int32).toInt = 0 from by decide] at z2097
                        refine ev_aload_n rfl rfl rfl ?_
                        refine ev_getW (l := (-2147483648)) (u := 2147483647) hJ2089.1 rfl rfl rfl fl_X10_237 rfl rfl rfl (fun v2098 b2098 e2098 => ?_)
                        refine ev_if_ne rfl rfl (fun c2099 => ?_) (fun c2099 => ?_)
                        · have z2100 := w_ne c2099
                          rw [show (0 : Int32).toInt = 0 from by decide] at z2100
                          refine ev_aload_n rfl rfl rfl ?_
                          refine ev_bipush (v := 6) rfl rfl (by decide) ?_
                          refine ev_iconst (v := 0) rfl rfl (by decide) ?_
                          refine ev_V2K hJ2089 rfl rfl rfl lk_X10_200 vt_X10_fails rfl rfl rfl rfl rfl (w_X10_fails_63 L b h2089 hJ2089.1 6 ((by decide : B 6 6 6).mono (by decide) (by decide)) 0) (fun h2103 hJ2103 k2103 m2103 => ?_)
                          obtain ⟨f2104, ef2104⟩ : ∃ f_, h2103 63 21 = f_ := ⟨_, rfl⟩
                          have bf2104 : B f2104 0 6 := by have z_ := hJ2103.1 63 21; rw [ef2104] at z_; exact z_
                          have zf2104 := congrArg Int32.toInt ef2104
                          exact ev_vret rfl rfl trivial ⟨rfl, rfl, hJ2103, (by have z0_ := congrArg Int32.toInt ef2104; have z1_ := congrArg Int32.toInt (rd_w k2103 (rd_w k2089 ef1829 rfl) rfl); have z_ := w_lits; have zl_ := l_lits; omega)⟩
                        · have b2101 : B v2098 0 0 := R_eqX (B.any v2098) (by decide : B 0 0 0) c2099
                          have z2102 := congrArg Int32.toInt c2099
                          rw [show (0 : Int32).toInt = 0 from by decide] at z2102
                          refine ev_aload_n rfl rfl rfl ?_
                          refine ev_getV (v := f1829) rfl rfl fl_X10_234 rfl rfl rfl (rd_w k2089 ef1829 rfl) ?_
                          refine ev_bipush (v := 24) rfl rfl (by decide) ?_
                          refine ev_icmp_le rfl rfl (fun c2105 => ?_) (fun c2105 => ?_)
                          · have b2106 : B f1829 0 24 := R_leX bf1829 (by decide : B 24 24 24) c2105 (by decide)
                            have z2107 := w_le c2105
                            rw [show (24 : Int32).toInt = 24 from by decide] at z2107
                            exact ev_vret rfl rfl trivial ⟨rfl, rfl, hJ2089, (by have z0_ := congrArg Int32.toInt ef2090; have z1_ := congrArg Int32.toInt (rd_w k2089 ef1829 rfl); have z_ := w_lits; have zl_ := l_lits; omega)⟩
                          · have b2108 : B f1829 25 60 := R_ltY (by decide : B 24 24 24) bf1829 (Int32.not_le.mp c2105) (by decide)
                            have z2109 := w_lt (Int32.not_le.mp c2105)
                            rw [show (24 : Int32).toInt = 24 from by decide] at z2109
                            refine ev_aload_n rfl rfl rfl ?_
                            refine ev_bipush (v := 6) rfl rfl (by decide) ?_
                            refine ev_iconst (v := 0) rfl rfl (by decide) ?_
                            refine ev_V2K hJ2089 rfl rfl rfl lk_X10_200 vt_X10_fails rfl rfl rfl rfl rfl (w_X10_fails_63 L b h2089 hJ2089.1 6 ((by decide : B 6 6 6).mono (by decide) (by decide)) 0) (fun h2110 hJ2110 k2110 m2110 => ?_)
                            obtain ⟨f2111, ef2111⟩ : ∃ f_, h2110 63 21 = f_ := ⟨_, rfl⟩
                            have bf2111 : B f2111 0 6 := by have z_ := hJ2110.1 63 21; rw [ef2111] at z_; exact z_
                            have zf2111 := congrArg Int32.toInt ef2111
                            exact ev_vret rfl rfl trivial ⟨rfl, rfl, hJ2110, (by have z0_ := congrArg Int32.toInt ef2111; have z1_ := congrArg Int32.toInt (rd_w k2110 (rd_w k2089 ef1829 rfl) rfl); have z_ := w_lits; have zl_ := l_lits; omega)⟩
                    · have b2087 : B f1828 0 0 := R_eqX bf1828 (by decide : B 0 0 0) c2084
                      have z2088 := congrArg Int32.toInt c2084
                      rw [show (0 : Int32).toInt = 0 from by decide] at z2088
                      refine ev_aload_n rfl rfl rfl ?_
                      refine ev_getV (v := f1830) rfl rfl fl_X10_241 rfl rfl rfl ef1830 ?_
                      refine ev_if_ne rfl rfl (fun c2112 => ?_) (fun c2112 => absurd c2112 (D_ne b1996 (by decide : B 0 0 0) (by decide)))
                      have z2113 := w_ne c2112
                      rw [show (0 : Int32).toInt = 0 from by decide] at z2113
                      refine ev_iconst (v := 0) rfl rfl (by decide) ?_
                      refine ev_iconst (v := 2) rfl rfl (by decide) ?_
                      refine ev_V2K hJ1823 rfl rfl rfl lk_X10_230 vt_X10_wants rfl rfl rfl rfl rfl (w_X10_wants_63 L b h1822 hJ1823.1 0 ((by decide : B 0 0 0).mono (by decide) (by decide)) 2 ((by decide : B 2 2 2).mono (by decide) (by decide))) (fun h2114 hJ2114 k2114 m2114 => ?_)
                      obtain ⟨f2115, ef2115⟩ : ∃ f_, h2114 63 21 = f_ := ⟨_, rfl⟩
                      have bf2115 : B f2115 0 6 := by have z_ := hJ2114.1 63 21; rw [ef2115] at z_; exact z_
                      have zf2115 := congrArg Int32.toInt ef2115
                      refine ev_iconst (v := 0) rfl rfl (by decide) ?_
                      refine ev_istore_n rfl rfl rfl rfl ?_
                      dsimp only [List.set]
                      refine ev_goto rfl rfl ?_
                      refine ev_iload_n rfl rfl rfl ?_
                      refine ev_if_eq rfl rfl (fun c2116 => ?_) (fun c2116 => absurd (D_eq (by decide : B 0 0 0) (by decide : B 0 0 0)) c2116)
                      have z2117 := congrArg Int32.toInt c2116
                      rw [show (0 : Int32).toInt = 0 from by decide] at z2117
                      refine ev_aload_n rfl rfl rfl ?_
                      refine ev_getV (v := f2115) rfl rfl fl_X10_191 rfl rfl rfl ef2115 ?_
                      refine ev_if_ne rfl rfl (fun c2118 => ?_) (fun c2118 => ?_)
                      · have b2119 : B f2115 1 6 := R_neL bf2115 (by decide : B 0 0 0) c2118 (by decide)
                        have z2120 := w_ne c2118
                        rw [show (0 : Int32).toInt = 0 from by decide] at z2120
                        exact ev_vret rfl rfl trivial ⟨rfl, rfl, hJ2114, (by have z0_ := congrArg Int32.toInt ef2115; have z1_ := congrArg Int32.toInt (rd_w k2114 ef1829 rfl); have z_ := w_lits; have zl_ := l_lits; omega)⟩
                      · have b2121 : B f2115 0 0 := R_eqX bf2115 (by decide : B 0 0 0) c2118
                        have z2122 := congrArg Int32.toInt c2118
                        rw [show (0 : Int32).toInt = 0 from by decide] at z2122
                        refine ev_aload_n rfl rfl rfl ?_
                        refine ev_getW (l := (-2147483648)) (u := 2147483647) hJ2114.1 rfl rfl rfl fl_X10_237 rfl rfl rfl (fun v2123 b2123 e2123 => ?_)
                        refine ev_if_ne rfl rfl (fun c2124 => ?_) (fun c2124 => ?_)
                        · have z2125 := w_ne c2124
                          rw [show (0 : Int32).toInt = 0 from by decide] at z2125
                          refine ev_aload_n rfl rfl rfl ?_
                          refine ev_bipush (v := 6) rfl rfl (by decide) ?_
                          refine ev_iconst (v := 0) rfl rfl (by decide) ?_
                          refine ev_V2K hJ2114 rfl rfl rfl lk_X10_200 vt_X10_fails rfl rfl rfl rfl rfl (w_X10_fails_63 L b h2114 hJ2114.1 6 ((by decide : B 6 6 6).mono (by decide) (by decide)) 0) (fun h2128 hJ2128 k2128 m2128 => ?_)
                          obtain ⟨f2129, ef2129⟩ : ∃ f_, h2128 63 21 = f_ := ⟨_, rfl⟩
                          have bf2129 : B f2129 0 6 := by have z_ := hJ2128.1 63 21; rw [ef2129] at z_; exact z_
                          have zf2129 := congrArg Int32.toInt ef2129
                          exact ev_vret rfl rfl trivial ⟨rfl, rfl, hJ2128, (by have z0_ := congrArg Int32.toInt ef2129; have z1_ := congrArg Int32.toInt (rd_w k2128 (rd_w k2114 ef1829 rfl) rfl); have z_ := w_lits; have zl_ := l_lits; omega)⟩
                        · have b2126 : B v2123 0 0 := R_eqX (B.any v2123) (by decide : B 0 0 0) c2124
                          have z2127 := congrArg Int32.toInt c2124
                          rw [show (0 : Int32).toInt = 0 from by decide] at z2127
                          refine ev_aload_n rfl rfl rfl ?_
                          refine ev_getV (v := f1829) rfl rfl fl_X10_234 rfl rfl rfl (rd_w k2114 ef1829 rfl) ?_
                          refine ev_bipush (v := 24) rfl rfl (by decide) ?_
                          refine ev_icmp_le rfl rfl (fun c2130 => ?_) (fun c2130 => ?_)
                          · have b2131 : B f1829 0 24 := R_leX bf1829 (by decide : B 24 24 24) c2130 (by decide)
                            have z2132 := w_le c2130
                            rw [show (24 : Int32).toInt = 24 from by decide] at z2132
                            exact ev_vret rfl rfl trivial ⟨rfl, rfl, hJ2114, (by have z0_ := congrArg Int32.toInt ef2115; have z1_ := congrArg Int32.toInt (rd_w k2114 ef1829 rfl); have z_ := w_lits; have zl_ := l_lits; omega)⟩
                          · have b2133 : B f1829 25 60 := R_ltY (by decide : B 24 24 24) bf1829 (Int32.not_le.mp c2130) (by decide)
                            have z2134 := w_lt (Int32.not_le.mp c2130)
                            rw [show (24 : Int32).toInt = 24 from by decide] at z2134
                            refine ev_aload_n rfl rfl rfl ?_
                            refine ev_bipush (v := 6) rfl rfl (by decide) ?_
                            refine ev_iconst (v := 0) rfl rfl (by decide) ?_
                            refine ev_V2K hJ2114 rfl rfl rfl lk_X10_200 vt_X10_fails rfl rfl rfl rfl rfl (w_X10_fails_63 L b h2114 hJ2114.1 6 ((by decide : B 6 6 6).mono (by decide) (by decide)) 0) (fun h2135 hJ2135 k2135 m2135 => ?_)
                            obtain ⟨f2136, ef2136⟩ : ∃ f_, h2135 63 21 = f_ := ⟨_, rfl⟩
                            have bf2136 : B f2136 0 6 := by have z_ := hJ2135.1 63 21; rw [ef2136] at z_; exact z_
                            have zf2136 := congrArg Int32.toInt ef2136
                            exact ev_vret rfl rfl trivial ⟨rfl, rfl, hJ2135, (by have z0_ := congrArg Int32.toInt ef2136; have z1_ := congrArg Int32.toInt (rd_w k2135 (rd_w k2114 ef1829 rfl) rfl); have z_ := w_lits; have zl_ := l_lits; omega)⟩
                  · have b2082 : B w1818 0 0 := R_eqX b1820 (by decide : B 0 0 0) c2079
                    have z2083 := congrArg Int32.toInt c2079
                    rw [show (0 : Int32).toInt = 0 from by decide] at z2083
                    refine ev_aload_n rfl rfl rfl ?_
                    refine ev_V0K hJ1823 rfl rfl rfl lk_X10_254 vt_X10_closes rfl rfl rfl rfl rfl (w_X10_closes_63 L b h1822 hJ1823.1 (by have z0_ := congrArg Int32.toInt ef1829; have z1_ := congrArg Int32.toInt ef1830; have z2_ := congrArg Int32.toInt ef1831; have z_ := w_lits; have zl_ := l_lits; omega) (by have z0_ := congrArg Int32.toInt ef1829; have z1_ := congrArg Int32.toInt ef1830; have z2_ := congrArg Int32.toInt ef1831; have z3_ := congrArg Int32.toInt ef1832; have z_ := w_lits; have zl_ := l_lits; omega) (by have z0_ := congrArg Int32.toInt ef1829; have z1_ := congrArg Int32.toInt ef1830; have z2_ := congrArg Int32.toInt ef1832; have z3_ := congrArg Int32.toInt ef1833; have z_ := w_lits; have zl_ := l_lits; omega) (by have z0_ := congrArg Int32.toInt ef1829; have z1_ := congrArg Int32.toInt ef1830; have z2_ := congrArg Int32.toInt ef1833; have z3_ := congrArg Int32.toInt ef1834; have z_ := w_lits; have zl_ := l_lits; omega) (B.at ef1830 b1996)) (fun h2137 hJ2137 k2137 m2137 => ?_)
                    obtain ⟨m2137_0, m2137_1, m2137_2, m2137_3⟩ := m2137
                    obtain ⟨f2138, ef2138⟩ : ∃ f_, h2137 63 27 = f_ := ⟨_, rfl⟩
                    have bf2138 : B f2138 0 60 := by have z_ := hJ2137.1 63 27; rw [ef2138] at z_; exact z_
                    have zf2138 := congrArg Int32.toInt ef2138
                    obtain ⟨f2139, ef2139⟩ : ∃ f_, h2137 63 31 = f_ := ⟨_, rfl⟩
                    have bf2139 : B f2139 0 4 := by have z_ := hJ2137.1 63 31; rw [ef2139] at z_; exact z_
                    have zf2139 := congrArg Int32.toInt ef2139
                    have z2140 := congrArg Int32.toInt (rd_w k2137 ef1831 rfl)
                    have z2141 := congrArg Int32.toInt (rd_w k2137 ef1832 rfl)
                    have z2142 := congrArg Int32.toInt (rd_w k2137 ef1833 rfl)
                    have z2143 := congrArg Int32.toInt (rd_w k2137 ef1834 rfl)
                    refine ev_aload_n rfl rfl rfl ?_
                    have z2144 := congrArg Int32.toInt (rd_w k2137 z1824 rfl)
                    have z2145 := congrArg Int32.toInt (rd_w k2137 ef1825 rfl)
                    have z2146 := congrArg Int32.toInt (rd_w k2137 ef1826 rfl)
                    have z2147 := congrArg Int32.toInt (rd_w k2137 ef1827 rfl)
                    have z2148 := congrArg Int32.toInt (rd_w k2137 ef1828 rfl)
                    refine ev_V0K hJ2137 rfl rfl rfl lk_X10_251 vt_X10_next rfl rfl rfl rfl rfl (w_X10_next_63 L b h2137 hJ2137.1 (by have z0_ := congrArg Int32.toInt (rd_w k2137 z1824 rfl); have z1_ := congrArg Int32.toInt (rd_w k2137 ef1825 rfl); have z_ := w_lits; have zl_ := l_lits; omega)) (fun h2149 hJ2149 k2149 m2149 => ?_)
                    obtain ⟨m2149_0, m2149_1, m2149_2, m2149_3, m2149_4⟩ := m2149
                    obtain ⟨f2150, ef2150⟩ : ∃ f_, h2149 63 17 = f_ := ⟨_, rfl⟩
                    have bf2150 : B f2150 0 160 := by have z_ := hJ2149.1 63 17; rw [ef2150] at z_; exact z_
                    have zf2150 := congrArg Int32.toInt ef2150
                    obtain ⟨f2151, ef2151⟩ : ∃ f_, h2149 63 21 = f_ := ⟨_, rfl⟩
                    have bf2151 : B f2151 0 6 := by have z_ := hJ2149.1 63 21; rw [ef2151] at z_; exact z_
                    have zf2151 := congrArg Int32.toInt ef2151
                    obtain ⟨f2152, ef2152⟩ : ∃ f_, h2149 63 20 = f_ := ⟨_, rfl⟩
                    have zf2152 := congrArg Int32.toInt ef2152
                    obtain ⟨f2153, ef2153⟩ : ∃ f_, h2149 63 19 = f_ := ⟨_, rfl⟩
                    have bf2153 : B f2153 0 3 := by have z_ := hJ2149.1 63 19; rw [ef2153] at z_; exact z_
                    have zf2153 := congrArg Int32.toInt ef2153
                    have z2154 := congrArg Int32.toInt (rd_w k2149 (rd_w k2137 z1824 rfl) rfl)
                    refine ev_goto rfl rfl ?_
                    exact (ih19 w1818 w1819 h2149 (b2082.mono (by decide) (by decide)) b1821 hJ2149 (rd_w k2149 (rd_w k2137 z1824 rfl) rfl) (by have z0_ := congrArg Int32.toInt (rd_w k2149 ef2138 rfl); have z1_ := congrArg Int32.toInt (rd_w k2149 ef2139 rfl); have z2_ := congrArg Int32.toInt (rd_w k2149 (rd_w k2137 ef1831 rfl) rfl); have z_ := w_lits; have zl_ := l_lits; omega) (by have z0_ := congrArg Int32.toInt (rd_w k2149 ef2138 rfl); have z1_ := congrArg Int32.toInt (rd_w k2149 ef2139 rfl); have z2_ := congrArg Int32.toInt (rd_w k2149 (rd_w k2137 ef1831 rfl) rfl); have z3_ := congrArg Int32.toInt (rd_w k2149 (rd_w k2137 ef1832 rfl) rfl); have z_ := w_lits; have zl_ := l_lits; omega) (by have z0_ := congrArg Int32.toInt (rd_w k2149 ef2138 rfl); have z1_ := congrArg Int32.toInt (rd_w k2149 ef2139 rfl); have z2_ := congrArg Int32.toInt (rd_w k2149 (rd_w k2137 ef1832 rfl) rfl); have z3_ := congrArg Int32.toInt (rd_w k2149 (rd_w k2137 ef1833 rfl) rfl); have z_ := w_lits; have zl_ := l_lits; omega) (by have z0_ := congrArg Int32.toInt (rd_w k2149 ef2138 rfl); have z1_ := congrArg Int32.toInt (rd_w k2149 ef2139 rfl); have z2_ := congrArg Int32.toInt (rd_w k2149 (rd_w k2137 ef1833 rfl) rfl); have z3_ := congrArg Int32.toInt (rd_w k2149 (rd_w k2137 ef1834 rfl) rfl); have z_ := w_lits; have zl_ := l_lits; omega) (by have z0_ := congrArg Int32.toInt (rd_w k2149 (rd_w k2137 z1824 rfl) rfl); have z1_ := congrArg Int32.toInt ef2150; have z_ := w_lits; have zl_ := l_lits; omega) (by have z0_ := congrArg Int32.toInt ef2151; have z1_ := congrArg Int32.toInt ef2152; have z2_ := congrArg Int32.toInt ef2153; have z_ := w_lits; have zl_ := l_lits; omega) (mM_dec hm19 (by have z0_ := congrArg Int32.toInt (rd_w k2149 (rd_w k2137 z1824 rfl) rfl); have z1_ := congrArg Int32.toInt ef2150; have z2_ := congrArg Int32.toInt ef2151; have z3_ := congrArg Int32.toInt ef2152; have z4_ := congrArg Int32.toInt ef2153; have z5_ := congrArg Int32.toInt (rd_w k2149 ef2138 rfl); have z6_ := congrArg Int32.toInt (rd_w k2149 ef2139 rfl); have z7_ := congrArg Int32.toInt (rd_w k2149 (rd_w k2137 ef1831 rfl) rfl); have z8_ := congrArg Int32.toInt (rd_w k2149 (rd_w k2137 ef1832 rfl) rfl); have z9_ := congrArg Int32.toInt (rd_w k2149 (rd_w k2137 ef1833 rfl) rfl); have z10_ := congrArg Int32.toInt (rd_w k2149 (rd_w k2137 ef1834 rfl) rfl); have z_ := w_lits; have zl_ := l_lits; omega) (by have z0_ := congrArg Int32.toInt (rd_w k2149 (rd_w k2137 z1824 rfl) rfl); have z1_ := congrArg Int32.toInt ef2150; have z2_ := congrArg Int32.toInt ef2151; have z3_ := congrArg Int32.toInt ef2152; have z4_ := congrArg Int32.toInt ef2153; have z5_ := congrArg Int32.toInt (rd_w k2149 ef2138 rfl); have z6_ := congrArg Int32.toInt (rd_w k2149 ef2139 rfl); have z7_ := congrArg Int32.toInt (rd_w k2149 (rd_w k2137 ef1831 rfl) rfl); have z8_ := congrArg Int32.toInt (rd_w k2149 (rd_w k2137 ef1832 rfl) rfl); have z9_ := congrArg Int32.toInt (rd_w k2149 (rd_w k2137 ef1833 rfl) rfl); have z10_ := congrArg Int32.toInt (rd_w k2149 (rd_w k2137 ef1834 rfl) rfl); have z_ := w_lits; have zl_ := l_lits; omega) (by have z0_ := congrArg Int32.toInt (rd_w k2149 (rd_w k2137 z1824 rfl) rfl); have z1_ := congrArg Int32.toInt ef2150; have z2_ := congrArg Int32.toInt ef2151; have z3_ := congrArg Int32.toInt ef2152; have z4_ := congrArg Int32.toInt ef2153; have z5_ := congrArg Int32.toInt (rd_w k2149 ef2138 rfl); have z6_ := congrArg Int32.toInt (rd_w k2149 ef2139 rfl); have z7_ := congrArg Int32.toInt (rd_w k2149 (rd_w k2137 ef1831 rfl) rfl); have z8_ := congrArg Int32.toInt (rd_w k2149 (rd_w k2137 ef1832 rfl) rfl); have z9_ := congrArg Int32.toInt (rd_w k2149 (rd_w k2137 ef1833 rfl) rfl); have z10_ := congrArg Int32.toInt (rd_w k2149 (rd_w k2137 ef1834 rfl) rfl); have z_ := w_lits; have zl_ := l_lits; omega)))
            · have b1878 : B f1828 2 2 := R_eqX bf1828 (by decide : B 2 2 2) c1876
              have z1879 := congrArg Int32.toInt c1876
              rw [show (2 : Int32).toInt = 2 from by decide] at z1879
              refine ev_aload_n rfl rfl rfl ?_
              refine ev_aload_n rfl rfl rfl ?_
              refine ev_getV (v := f1827) rfl rfl fl_X10_207 rfl rfl rfl ef1827 ?_
              refine ev_i2l rfl rfl ?_
              have z2155 := Int32.toInt_toInt64 f1827
              have z2155b := B.any f1827
              refine ev_lconst (v := 1) rfl rfl rfl ?_
              refine ev_ldc2 (v := 20) rfl rfl kc_X10_167 ?_
              refine ev_S3P rfl rfl lk_X10_124 st_X10_in rfl rfl (w_inR (G0 L b) h1822 f1827 1 20 (by decide : BL 1 1 1) (by decide : BL 20 20 20)) (fun r2156 q2156 => ?_)
              obtain ⟨b2156, p2156_0, pp2156_0, pp2156_1⟩ := q2156
              refine ev_iconst (v := 3) rfl rfl (by decide) ?_
              refine ev_V2K hJ1823 rfl rfl rfl lk_X10_230 vt_X10_wants rfl rfl rfl rfl rfl (w_X10_wants_63 L b h1822 hJ1823.1 r2156 b2156 3 ((by decide : B 3 3 3).mono (by decide) (by decide))) (fun h2157 hJ2157 k2157 m2157 => ?_)
              obtain ⟨f2158, ef2158⟩ : ∃ f_, h2157 63 21 = f_ := ⟨_, rfl⟩
              have bf2158 : B f2158 0 6 := by have z_ := hJ2157.1 63 21; rw [ef2158] at z_; exact z_
              have zf2158 := congrArg Int32.toInt ef2158
              refine ev_aload_n rfl rfl rfl ?_
              refine ev_getV (v := f1827) rfl rfl fl_X10_207 rfl rfl rfl (rd_w k2157 ef1827 rfl) ?_
              refine ev_istore_n rfl rfl rfl rfl ?_
              dsimp only [List.set]
              refine ev_aload_n rfl rfl rfl ?_
              have z2159 := congrArg Int32.toInt (rd_w k2157 z1824 rfl)
              have z2160 := congrArg Int32.toInt (rd_w k2157 ef1825 rfl)
              have z2161 := congrArg Int32.toInt (rd_w k2157 ef1827 rfl)
              have z2162 := congrArg Int32.toInt (rd_w k2157 ef1828 rfl)
              refine ev_V0K hJ2157 rfl rfl rfl lk_X10_251 vt_X10_next rfl rfl rfl rfl rfl (w_X10_next_63 L b h2157 hJ2157.1 (by have z0_ := congrArg Int32.toInt (rd_w k2157 z1824 rfl); have z1_ := congrArg Int32.toInt (rd_w k2157 ef1825 rfl); have z_ := w_lits; have zl_ := l_lits; omega)) (fun h2163 hJ2163 k2163 m2163 => ?_)
              obtain ⟨m2163_0, m2163_1, m2163_2, m2163_3, m2163_4⟩ := m2163
              obtain ⟨f2164, ef2164⟩ : ∃ f_, h2163 63 17 = f_ := ⟨_, rfl⟩
              have bf2164 : B f2164 0 160 := by have z_ := hJ2163.1 63 17; rw [ef2164] at z_; exact z_
              have zf2164 := congrArg Int32.toInt ef2164
              obtain ⟨f2165, ef2165⟩ : ∃ f_, h2163 63 21 = f_ := ⟨_, rfl⟩
              have bf2165 : B f2165 0 6 := by have z_ := hJ2163.1 63 21; rw [ef2165] at z_; exact z_
              have zf2165 := congrArg Int32.toInt ef2165
              obtain ⟨f2166, ef2166⟩ : ∃ f_, h2163 63 20 = f_ := ⟨_, rfl⟩
              have zf2166 := congrArg Int32.toInt ef2166
              obtain ⟨f2167, ef2167⟩ : ∃ f_, h2163 63 19 = f_ := ⟨_, rfl⟩
              have bf2167 : B f2167 0 3 := by have z_ := hJ2163.1 63 19; rw [ef2167] at z_; exact z_
              have zf2167 := congrArg Int32.toInt ef2167
              have z2168 := congrArg Int32.toInt (rd_w k2163 (rd_w k2157 z1824 rfl) rfl)
              refine ev_aload_n rfl rfl rfl ?_
              refine ev_aload_n rfl rfl rfl ?_
              refine ev_bipush (v := 40) rfl rfl (by decide) ?_
              refine ev_V1P rfl rfl lk_X10_244 vt_X10_isSign rfl rfl rfl rfl rfl (w_X10_isSign_63 L b h2163 hJ2163.1 40) (fun r2169 q2169 => ?_)
              obtain ⟨b2169, pp2169_0⟩ := q2169
              refine ev_iconst (v := 2) rfl rfl (by decide) ?_
              refine ev_V2K hJ2163 rfl rfl rfl lk_X10_230 vt_X10_wants rfl rfl rfl rfl rfl (w_X10_wants_63 L b h2163 hJ2163.1 r2169 b2169 2 ((by decide : B 2 2 2).mono (by decide) (by decide))) (fun h2170 hJ2170 k2170 m2170 => ?_)
              obtain ⟨f2171, ef2171⟩ : ∃ f_, h2170 63 21 = f_ := ⟨_, rfl⟩
              have bf2171 : B f2171 0 6 := by have z_ := hJ2170.1 63 21; rw [ef2171] at z_; exact z_
              have zf2171 := congrArg Int32.toInt ef2171
              refine ev_aload_n rfl rfl rfl ?_
              refine ev_aload_n rfl rfl rfl ?_
              refine ev_getV (v := f1830) rfl rfl fl_X10_241 rfl rfl rfl (rd_w k2170 (rd_w k2163 (rd_w k2157 ef1830 rfl) rfl) rfl) ?_
              refine ev_iconst (v := 4) rfl rfl (by decide) ?_
              refine ev_icmp_ge rfl rfl (fun c2172 => ?_) (fun c2172 => ?_)
              · have b2173 : B f1830 4 4 := R_leY (by decide : B 4 4 4) bf1830 c2172 (by decide)
                have z2174 := w_le c2172
                rw [show (4 : Int32).toInt = 4 from by decide] at z2174
                refine ev_iconst (v := 0) rfl rfl (by decide) ?_
                refine ev_iconst (v := 5) rfl rfl (by decide) ?_
                refine ev_V2K hJ2170 rfl rfl rfl lk_X10_230 vt_X10_wants rfl rfl rfl rfl rfl (w_X10_wants_63 L b h2170 hJ2170.1 0 ((by decide : B 0 0 0).mono (by decide) (by decide)) 5 ((by decide : B 5 5 5).mono (by decide) (by decide))) (fun h2177 hJ2177 k2177 m2177 => ?_)
                obtain ⟨f2178, ef2178⟩ : ∃ f_, h2177 63 21 = f_ := ⟨_, rfl⟩
                have bf2178 : B f2178 0 6 := by have z_ := hJ2177.1 63 21; rw [ef2178] at z_; exact z_
                have zf2178 := congrArg Int32.toInt ef2178
                refine ev_aload_n rfl rfl rfl ?_
                refine ev_getV (v := f2178) rfl rfl fl_X10_191 rfl rfl rfl ef2178 ?_
                refine ev_if_ne rfl rfl (fun c2179 => ?_) (fun c2179 => ?_)
                · have b2180 : B f2178 1 6 := R_neL bf2178 (by decide : B 0 0 0) c2179 (by decide)
                  have z2181 := w_ne c2179
                  rw [show (0 : Int32).toInt = 0 from by decide] at z2181
                  refine ev_aload_n rfl rfl rfl ?_
                  have z2184 := congrArg Int32.toInt (rd_w k2177 (rd_w k2170 (rd_w k2163 (rd_w k2157 z1824 rfl) rfl) rfl) rfl)
                  have z2185 := congrArg Int32.toInt (rd_w k2177 (rd_w k2170 ef2164 rfl) rfl)
                  have z2186 := congrArg Int32.toInt (rd_w k2177 (rd_w k2170 ef2166 rfl) rfl)
                  have z2187 := congrArg Int32.toInt (rd_w k2177 (rd_w k2170 ef2167 rfl) rfl)
                  refine ev_V0K hJ2177 rfl rfl rfl lk_X10_251 vt_X10_next rfl rfl rfl rfl rfl (w_X10_next_63 L b h2177 hJ2177.1 (by have z0_ := congrArg Int32.toInt (rd_w k2177 (rd_w k2170 (rd_w k2163 (rd_w k2157 z1824 rfl) rfl) rfl) rfl); have z1_ := congrArg Int32.toInt (rd_w k2177 (rd_w k2170 ef2164 rfl) rfl); have z_ := w_lits; have zl_ := l_lits; omega)) (fun h2188 hJ2188 k2188 m2188 => ?_)
                  obtain ⟨m2188_0, m2188_1, m2188_2, m2188_3, m2188_4⟩ := m2188
                  obtain ⟨f2189, ef2189⟩ : ∃ f_, h2188 63 17 = f_ := ⟨_, rfl⟩
                  have bf2189 : B f2189 0 160 := by have z_ := hJ2188.1 63 17; rw [ef2189] at z_; exact z_
                  have zf2189 := congrArg Int32.toInt ef2189
                  obtain ⟨f2190, ef2190⟩ : ∃ f_, h2188 63 21 = f_ := ⟨_, rfl⟩
                  have bf2190 : B f2190 0 6 := by have z_ := hJ2188.1 63 21; rw [ef2190] at z_; exact z_
                  have zf2190 := congrArg Int32.toInt ef2190
                  obtain ⟨f2191, ef2191⟩ : ∃ f_, h2188 63 20 = f_ := ⟨_, rfl⟩
                  have zf2191 := congrArg Int32.toInt ef2191
                  obtain ⟨f2192, ef2192⟩ : ∃ f_, h2188 63 19 = f_ := ⟨_, rfl⟩
                  have bf2192 : B f2192 0 3 := by have z_ := hJ2188.1 63 19; rw [ef2192] at z_; exact z_
                  have zf2192 := congrArg Int32.toInt ef2192
                  have z2193 := congrArg Int32.toInt (rd_w k2188 (rd_w k2177 (rd_w k2170 (rd_w k2163 (rd_w k2157 z1824 rfl) rfl) rfl) rfl) rfl)
                  refine ev_goto rfl rfl ?_
                  exact (EvQ.drop 3 (ih19 w1818 w1819 h2188 b1820 b1821 hJ2188 (rd_w k2188 (rd_w k2177 (rd_w k2170 (rd_w k2163 (rd_w k2157 z1824 rfl) rfl) rfl) rfl) rfl) (by have z0_ := congrArg Int32.toInt (rd_w k2188 (rd_w k2177 (rd_w k2170 (rd_w k2163 (rd_w k2157 ef1829 rfl) rfl) rfl) rfl) rfl); have z1_ := congrArg Int32.toInt (rd_w k2188 (rd_w k2177 (rd_w k2170 (rd_w k2163 (rd_w k2157 ef1830 rfl) rfl) rfl) rfl) rfl); have z2_ := congrArg Int32.toInt (rd_w k2188 (rd_w k2177 (rd_w k2170 (rd_w k2163 (rd_w k2157 ef1831 rfl) rfl) rfl) rfl) rfl); have z_ := w_lits; have zl_ := l_lits; omega) (by have z0_ := congrArg Int32.toInt (rd_w k2188 (rd_w k2177 (rd_w k2170 (rd_w k2163 (rd_w k2157 ef1829 rfl) rfl) rfl) rfl) rfl); have z1_ := congrArg Int32.toInt (rd_w k2188 (rd_w k2177 (rd_w k2170 (rd_w k2163 (rd_w k2157 ef1830 rfl) rfl) rfl) rfl) rfl); have z2_ := congrArg Int32.toInt (rd_w k2188 (rd_w k2177 (rd_w k2170 (rd_w k2163 (rd_w k2157 ef1831 rfl) rfl) rfl) rfl) rfl); have z3_ := congrArg Int32.toInt (rd_w k2188 (rd_w k2177 (rd_w k2170 (rd_w k2163 (rd_w k2157 ef1832 rfl) rfl) rfl) rfl) rfl); have z_ := w_lits; have zl_ := l_lits; omega) (by have z0_ := congrArg Int32.toInt (rd_w k2188 (rd_w k2177 (rd_w k2170 (rd_w k2163 (rd_w k2157 ef1829 rfl) rfl) rfl) rfl) rfl); have z1_ := congrArg Int32.toInt (rd_w k2188 (rd_w k2177 (rd_w k2170 (rd_w k2163 (rd_w k2157 ef1830 rfl) rfl) rfl) rfl) rfl); have z2_ := congrArg Int32.toInt (rd_w k2188 (rd_w k2177 (rd_w k2170 (rd_w k2163 (rd_w k2157 ef1832 rfl) rfl) rfl) rfl) rfl); have z3_ := congrArg Int32.toInt (rd_w k2188 (rd_w k2177 (rd_w k2170 (rd_w k2163 (rd_w k2157 ef1833 rfl) rfl) rfl) rfl) rfl); have z_ := w_lits; have zl_ := l_lits; omega) (by have z0_ := congrArg Int32.toInt (rd_w k2188 (rd_w k2177 (rd_w k2170 (rd_w k2163 (rd_w k2157 ef1829 rfl) rfl) rfl) rfl) rfl); have z1_ := congrArg Int32.toInt (rd_w k2188 (rd_w k2177 (rd_w k2170 (rd_w k2163 (rd_w k2157 ef1830 rfl) rfl) rfl) rfl) rfl); have z2_ := congrArg Int32.toInt (rd_w k2188 (rd_w k2177 (rd_w k2170 (rd_w k2163 (rd_w k2157 ef1833 rfl) rfl) rfl) rfl) rfl); have z3_ := congrArg Int32.toInt (rd_w k2188 (rd_w k2177 (rd_w k2170 (rd_w k2163 (rd_w k2157 ef1834 rfl) rfl) rfl) rfl) rfl); have z_ := w_lits; have zl_ := l_lits; omega) (by have z0_ := congrArg Int32.toInt (rd_w k2188 (rd_w k2177 (rd_w k2170 (rd_w k2163 (rd_w k2157 z1824 rfl) rfl) rfl) rfl) rfl); have z1_ := congrArg Int32.toInt ef2189; have z_ := w_lits; have zl_ := l_lits; omega) (by have z0_ := congrArg Int32.toInt ef2190; have z1_ := congrArg Int32.toInt ef2191; have z2_ := congrArg Int32.toInt ef2192; have z_ := w_lits; have zl_ := l_lits; omega) (mM_dec hm19 (by have z0_ := congrArg Int32.toInt (rd_w k2188 (rd_w k2177 (rd_w k2170 (rd_w k2163 (rd_w k2157 z1824 rfl) rfl) rfl) rfl) rfl); have z1_ := congrArg Int32.toInt ef2189; have z2_ := congrArg Int32.toInt ef2190; have z3_ := congrArg Int32.toInt ef2191; have z4_ := congrArg Int32.toInt ef2192; have z5_ := congrArg Int32.toInt (rd_w k2188 (rd_w k2177 (rd_w k2170 (rd_w k2163 (rd_w k2157 ef1829 rfl) rfl) rfl) rfl) rfl); have z6_ := congrArg Int32.toInt (rd_w k2188 (rd_w k2177 (rd_w k2170 (rd_w k2163 (rd_w k2157 ef1830 rfl) rfl) rfl) rfl) rfl); have z7_ := congrArg Int32.toInt (rd_w k2188 (rd_w k2177 (rd_w k2170 (rd_w k2163 (rd_w k2157 ef1831 rfl) rfl) rfl) rfl) rfl); have z8_ := congrArg Int32.toInt (rd_w k2188 (rd_w k2177 (rd_w k2170 (rd_w k2163 (rd_w k2157 ef1832 rfl) rfl) rfl) rfl) rfl); have z9_ := congrArg Int32.toInt (rd_w k2188 (rd_w k2177 (rd_w k2170 (rd_w k2163 (rd_w k2157 ef1833 rfl) rfl) rfl) rfl) rfl); have z10_ := congrArg Int32.toInt (rd_w k2188 (rd_w k2177 (rd_w k2170 (rd_w k2163 (rd_w k2157 ef1834 rfl) rfl) rfl) rfl) rfl); have z_ := w_lits; have zl_ := l_lits; omega) (by have z0_ := congrArg Int32.toInt (rd_w k2188 (rd_w k2177 (rd_w k2170 (rd_w k2163 (rd_w k2157 z1824 rfl) rfl) rfl) rfl) rfl); have z1_ := congrArg Int32.toInt ef2189; have z2_ := congrArg Int32.toInt ef2190; have z3_ := congrArg Int32.toInt ef2191; have z4_ := congrArg Int32.toInt ef2192; have z5_ := congrArg Int32.toInt (rd_w k2188 (rd_w k2177 (rd_w k2170 (rd_w k2163 (rd_w k2157 ef1829 rfl) rfl) rfl) rfl) rfl); have z6_ := congrArg Int32.toInt (rd_w k2188 (rd_w k2177 (rd_w k2170 (rd_w k2163 (rd_w k2157 ef1830 rfl) rfl) rfl) rfl) rfl); have z7_ := congrArg Int32.toInt (rd_w k2188 (rd_w k2177 (rd_w k2170 (rd_w k2163 (rd_w k2157 ef1831 rfl) rfl) rfl) rfl) rfl); have z8_ := congrArg Int32.toInt (rd_w k2188 (rd_w k2177 (rd_w k2170 (rd_w k2163 (rd_w k2157 ef1832 rfl) rfl) rfl) rfl) rfl); have z9_ := congrArg Int32.toInt (rd_w k2188 (rd_w k2177 (rd_w k2170 (rd_w k2163 (rd_w k2157 ef1833 rfl) rfl) rfl) rfl) rfl); have z10_ := congrArg Int32.toInt (rd_w k2188 (rd_w k2177 (rd_w k2170 (rd_w k2163 (rd_w k2157 ef1834 rfl) rfl) rfl) rfl) rfl); have z_ := w_lits; have zl_ := l_lits; omega) (by have z0_ := congrArg Int32.toInt (rd_w k2188 (rd_w k2177 (rd_w k2170 (rd_w k2163 (rd_w k2157 z1824 rfl) rfl) rfl) rfl) rfl); have z1_ := congrArg Int32.toInt ef2189; have z2_ := congrArg Int32.toInt ef2190; have z3_ := congrArg Int32.toInt ef2191; have z4_ := congrArg Int32.toInt ef2192; have z5_ := congrArg Int32.toInt (rd_w k2188 (rd_w k2177 (rd_w k2170 (rd_w k2163 (rd_w k2157 ef1829 rfl) rfl) rfl) rfl) rfl); have z6_ := congrArg Int32.toInt (rd_w k2188 (rd_w k2177 (rd_w k2170 (rd_w k2163 (rd_w k2157 ef1830 rfl) rfl) rfl) rfl) rfl); have z7_ := congrArg Int32.toInt (rd_w k2188 (rd_w k2177 (rd_w k2170 (rd_w k2163 (rd_w k2157 ef1831 rfl) rfl) rfl) rfl) rfl); have z8_ := congrArg Int32.toInt (rd_w k2188 (rd_w k2177 (rd_w k2170 (rd_w k2163 (rd_w k2157 ef1832 rfl) rfl) rfl) rfl) rfl); have z9_ := congrArg Int32.toInt (rd_w k2188 (rd_w k2177 (rd_w k2170 (rd_w k2163 (rd_w k2157 ef1833 rfl) rfl) rfl) rfl) rfl); have z10_ := congrArg Int32.toInt (rd_w k2188 (rd_w k2177 (rd_w k2170 (rd_w k2163 (rd_w k2157 ef1834 rfl) rfl) rfl) rfl) rfl); have z_ := w_lits; have zl_ := l_lits; omega))))
                · have b2182 : B f2178 0 0 := R_eqX bf2178 (by decide : B 0 0 0) c2179
                  have z2183 := congrArg Int32.toInt c2179
                  rw [show (0 : Int32).toInt = 0 from by decide] at z2183
                  refine ev_aload_n rfl rfl rfl ?_
                  refine ev_getR (y := 76) rfl rfl fl_X10_60 rfl rfl rfl rfl ?_
                  refine ev_aload_n rfl rfl rfl ?_
                  refine ev_getV (v := f1830) rfl rfl fl_X10_241 rfl rfl rfl (rd_w k2177 (rd_w k2170 (rd_w k2163 (rd_w k2157 ef1830 rfl) rfl) rfl) rfl) ?_
                  rcases B.c5 (b2173.mono (by decide) (by decide)) with rfl | rfl | rfl | rfl | rfl
                  · refine ev_aload_n rfl rfl rfl ?_
                    refine ev_getV (v := f1829) rfl rfl fl_X10_234 rfl rfl rfl (rd_w k2177 (rd_w k2170 (rd_w k2163 (rd_w k2157 ef1829 rfl) rfl) rfl) rfl) ?_
                    refine ev_iasK (j := 0) (n := 5) (l := 0) (u := 60) hJ2177 (by decide : B 0 0 0) (by decide) (by decide) (by decide) rfl bf1829 (by decide) (by decide) rfl rfl rfl rfl rfl (fun h2194 hJ2194 k2194 => ?_)
                    refine ev_aload_n rfl rfl rfl ?_
                    refine ev_getR (y := 77) rfl rfl fl_X10_63 rfl rfl rfl rfl ?_
                    refine ev_aload_n rfl rfl rfl ?_
                    refine ev_getV (v := 0) rfl rfl fl_X10_241 rfl rfl rfl (rd_a k2194 (rd_w k2177 (rd_w k2170 (rd_w k2163 (rd_w k2157 ef1830 rfl) rfl) rfl) rfl) rfl) ?_
                    refine ev_iload_n rfl rfl rfl ?_
                    have b2195 : B f1827 0 20 := ⟨(by have z0_ := congrArg Int32.toInt (rd_a k2194 (rd_w k2177 (rd_w k2170 (rd_w k2163 (rd_w k2157 z1824 rfl) rfl) rfl) rfl) rfl); have z1_ := congrArg Int32.toInt (rd_a k2194 (rd_w k2177 (rd_w k2170 ef2164 rfl) rfl) rfl); have z2_ := congrArg Int32.toInt (rd_a k2194 ef2178 rfl); have z3_ := congrArg Int32.toInt (rd_a k2194 (rd_w k2177 (rd_w k2170 ef2166 rfl) rfl) rfl); have z4_ := congrArg Int32.toInt (rd_a k2194 (rd_w k2177 (rd_w k2170 ef2167 rfl) rfl) rfl); have z5_ := congrArg Int32.toInt (rd_a k2194 (rd_w k2177 (rd_w k2170 (rd_w k2163 (rd_w k2157 ef1829 rfl) rfl) rfl) rfl) rfl); have z6_ := congrArg Int32.toInt (rd_a k2194 (rd_w k2177 (rd_w k2170 (rd_w k2163 (rd_w k2157 ef1830 rfl) rfl) rfl) rfl) rfl); have z7_ := congrArg Int32.toInt (rd_s k2194); have z8_ := congrArg Int32.toInt (rd_o k2194 (rd_w k2177 (rd_w k2170 (rd_w k2163 (rd_w k2157 ef1832 rfl) rfl) rfl) rfl) rfl); have z9_ := congrArg Int32.toInt (rd_o k2194 (rd_w k2177 (rd_w k2170 (rd_w k2163 (rd_w k2157 ef1833 rfl) rfl) rfl) rfl) rfl); have z10_ := congrArg Int32.toInt (rd_o k2194 (rd_w k2177 (rd_w k2170 (rd_w k2163 (rd_w k2157 ef1834 rfl) rfl) rfl) rfl) rfl); have z_ := w_lits; have zl_ := l_lits; omega), (by have z0_ := congrArg Int32.toInt (rd_a k2194 (rd_w k2177 (rd_w k2170 (rd_w k2163 (rd_w k2157 z1824 rfl) rfl) rfl) rfl) rfl); have z1_ := congrArg Int32.toInt (rd_a k2194 (rd_w k2177 (rd_w k2170 ef2164 rfl) rfl) rfl); have z2_ := congrArg Int32.toInt (rd_a k2194 ef2178 rfl); have z3_ := congrArg Int32.toInt (rd_a k2194 (rd_w k2177 (rd_w k2170 ef2166 rfl) rfl) rfl); have z4_ := congrArg Int32.toInt (rd_a k2194 (rd_w k2177 (rd_w k2170 ef2167 rfl) rfl) rfl); have z5_ := congrArg Int32.toInt (rd_a k2194 (rd_w k2177 (rd_w k2170 (rd_w k2163 (rd_w k2157 ef1829 rfl) rfl) rfl) rfl) rfl); have z6_ := congrArg Int32.toInt (rd_a k2194 (rd_w k2177 (rd_w k2170 (rd_w k2163 (rd_w k2157 ef1830 rfl) rfl) rfl) rfl) rfl); have z7_ := congrArg Int32.toInt (rd_s k2194); have z8_ := congrArg Int32.toInt (rd_o k2194 (rd_w k2177 (rd_w k2170 (rd_w k2163 (rd_w k2157 ef1832 rfl) rfl) rfl) rfl) rfl); have z9_ := congrArg Int32.toInt (rd_o k2194 (rd_w k2177 (rd_w k2170 (rd_w k2163 (rd_w k2157 ef1833 rfl) rfl) rfl) rfl) rfl); have z10_ := congrArg Int32.toInt (rd_o k2194 (rd_w k2177 (rd_w k2170 (rd_w k2163 (rd_w k2157 ef1834 rfl) rfl) rfl) rfl) rfl); have z_ := w_lits; have zl_ := l_lits; omega)⟩
                    refine ev_iasW (n := 5) (l := 0) (u := 20) hJ2194 (by decide : B 0 0 0) (by decide) (by decide) (fun _ => rfl) b2195 (by decide) (by decide) (fun _ => rfl) rfl rfl rfl rfl (fun h2196 hJ2196 k2196 => ?_)
                    refine ev_aload_n rfl rfl rfl ?_
                    refine ev_dup rfl rfl rfl ?_
                    refine ev_getV (v := 0) rfl rfl fl_X10_241 rfl rfl rfl (rd_a k2196 (rd_a k2194 (rd_w k2177 (rd_w k2170 (rd_w k2163 (rd_w k2157 ef1830 rfl) rfl) rfl) rfl) rfl) rfl) ?_
                    refine ev_iconst (v := 1) rfl rfl (by decide) ?_
                    refine ev_iaddB (l := 1) (u := 1) rfl rfl (by decide : B 0 0 0) (by decide : B 1 1 1) (by decide) (by decide) (by decide) (by decide) (fun v2197 b2197 e2197 g2197 => ?_)
                    have e2197x := e2197; rw [show (0 : Int32).toInt = 0 from by decide] at e2197x
                    have e2197xx := e2197x; rw [show (1 : Int32).toInt = 1 from by decide] at e2197xx
                    have b2198 : B v2197 0 4 := ⟨(by have z0_ := congrArg Int32.toInt (rd_a k2196 (rd_a k2194 (rd_w k2177 (rd_w k2170 (rd_w k2163 (rd_w k2157 z1824 rfl) rfl) rfl) rfl) rfl) rfl); have z1_ := congrArg Int32.toInt (rd_a k2196 (rd_a k2194 (rd_w k2177 (rd_w k2170 ef2164 rfl) rfl) rfl) rfl); have z2_ := congrArg Int32.toInt (rd_a k2196 (rd_a k2194 ef2178 rfl) rfl); have z3_ := congrArg Int32.toInt (rd_a k2196 (rd_a k2194 (rd_w k2177 (rd_w k2170 ef2166 rfl) rfl) rfl) rfl); have z4_ := congrArg Int32.toInt (rd_a k2196 (rd_a k2194 (rd_w k2177 (rd_w k2170 ef2167 rfl) rfl) rfl) rfl); have z5_ := congrArg Int32.toInt (rd_a k2196 (rd_a k2194 (rd_w k2177 (rd_w k2170 (rd_w k2163 (rd_w k2157 ef1829 rfl) rfl) rfl) rfl) rfl) rfl); have z6_ := congrArg Int32.toInt (rd_a k2196 (rd_a k2194 (rd_w k2177 (rd_w k2170 (rd_w k2163 (rd_w k2157 ef1830 rfl) rfl) rfl) rfl) rfl) rfl); have z7_ := congrArg Int32.toInt (rd_a k2196 (rd_s k2194) rfl); have z8_ := congrArg Int32.toInt (rd_a k2196 (rd_o k2194 (rd_w k2177 (rd_w k2170 (rd_w k2163 (rd_w k2157 ef1832 rfl) rfl) rfl) rfl) rfl) rfl); have z9_ := congrArg Int32.toInt (rd_a k2196 (rd_o k2194 (rd_w k2177 (rd_w k2170 (rd_w k2163 (rd_w k2157 ef1833 rfl) rfl) rfl) rfl) rfl) rfl); have z10_ := congrArg Int32.toInt (rd_a k2196 (rd_o k2194 (rd_w k2177 (rd_w k2170 (rd_w k2163 (rd_w k2157 ef1834 rfl) rfl) rfl) rfl) rfl) rfl); have z_ := w_lits; have zl_ := l_lits; omega), (by have z0_ := congrArg Int32.toInt (rd_a k2196 (rd_a k2194 (rd_w k2177 (rd_w k2170 (rd_w k2163 (rd_w k2157 z1824 rfl) rfl) rfl) rfl) rfl) rfl); have z1_ := congrArg Int32.toInt (rd_a k2196 (rd_a k2194 (rd_w k2177 (rd_w k2170 ef2164 rfl) rfl) rfl) rfl); have z2_ := congrArg Int32.toInt (rd_a k2196 (rd_a k2194 ef2178 rfl) rfl); have z3_ := congrArg Int32.toInt (rd_a k2196 (rd_a k2194 (rd_w k2177 (rd_w k2170 ef2166 rfl) rfl) rfl) rfl); have z4_ := congrArg Int32.toInt (rd_a k2196 (rd_a k2194 (rd_w k2177 (rd_w k2170 ef2167 rfl) rfl) rfl) rfl); have z5_ := congrArg Int32.toInt (rd_a k2196 (rd_a k2194 (rd_w k2177 (rd_w k2170 (rd_w k2163 (rd_w k2157 ef1829 rfl) rfl) rfl) rfl) rfl) rfl); have z6_ := congrArg Int32.toInt (rd_a k2196 (rd_a k2194 (rd_w k2177 (rd_w k2170 (rd_w k2163 (rd_w k2157 ef1830 rfl) rfl) rfl) rfl) rfl) rfl); have z7_ := congrArg Int32.toInt (rd_a k2196 (rd_s k2194) rfl); have z8_ := congrArg Int32.toInt (rd_a k2196 (rd_o k2194 (rd_w k2177 (rd_w k2170 (rd_w k2163 (rd_w k2157 ef1832 rfl) rfl) rfl) rfl) rfl) rfl); have z9_ := congrArg Int32.toInt (rd_a k2196 (rd_o k2194 (rd_w k2177 (rd_w k2170 (rd_w k2163 (rd_w k2157 ef1833 rfl) rfl) rfl) rfl) rfl) rfl); have z10_ := congrArg Int32.toInt (rd_a k2196 (rd_o k2194 (rd_w k2177 (rd_w k2170 (rd_w k2163 (rd_w k2157 ef1834 rfl) rfl) rfl) rfl) rfl) rfl); have z_ := w_lits; have zl_ := l_lits; omega)⟩
                    refine ev_putW (l := 0) (u := 4) hJ2196 rfl b2198 (by decide) (by decide) rfl rfl rfl fl_X10_241 rfl rfl rfl rfl rfl (fun h2199 hJ2199 k2199 => ?_)
                    refine ev_iconst (v := 1) rfl rfl (by decide) ?_
                    refine ev_istore_n rfl rfl rfl rfl ?_
                    dsimp only [List.set]
                    refine ev_aload_n rfl rfl rfl ?_
                    have z2200 := congrArg Int32.toInt (rd_o k2199 (rd_a k2196 (rd_a k2194 (rd_w k2177 (rd_w k2170 (rd_w k2163 (rd_w k2157 z1824 rfl) rfl) rfl) rfl) rfl) rfl) rfl)
                    have z2201 := congrArg Int32.toInt (rd_o k2199 (rd_a k2196 (rd_a k2194 (rd_w k2177 (rd_w k2170 ef2164 rfl) rfl) rfl) rfl) rfl)
                    have z2202 := congrArg Int32.toInt (rd_o k2199 (rd_a k2196 (rd_a k2194 ef2178 rfl) rfl) rfl)
                    have z2203 := congrArg Int32.toInt (rd_o k2199 (rd_a k2196 (rd_a k2194 (rd_w k2177 (rd_w k2170 ef2166 rfl) rfl) rfl) rfl) rfl)
                    have z2204 := congrArg Int32.toInt (rd_o k2199 (rd_a k2196 (rd_a k2194 (rd_w k2177 (rd_w k2170 ef2167 rfl) rfl) rfl) rfl) rfl)
                    refine ev_V0K hJ2199 rfl rfl rfl lk_X10_251 vt_X10_next rfl rfl rfl rfl rfl (w_X10_next_63 L b h2199 hJ2199.1 (by have z0_ := congrArg Int32.toInt (rd_o k2199 (rd_a k2196 (rd_a k2194 (rd_w k2177 (rd_w k2170 (rd_w k2163 (rd_w k2157 z1824 rfl) rfl) rfl) rfl) rfl) rfl) rfl); have z1_ := congrArg Int32.toInt (rd_o k2199 (rd_a k2196 (rd_a k2194 (rd_w k2177 (rd_w k2170 ef2164 rfl) rfl) rfl) rfl) rfl); have z_ := w_lits; have zl_ := l_lits; omega)) (fun h2205 hJ2205 k2205 m2205 => ?_)
                    obtain ⟨m2205_0, m2205_1, m2205_2, m2205_3, m2205_4⟩ := m2205
                    obtain ⟨f2206, ef2206⟩ : ∃ f_, h2205 63 17 = f_ := ⟨_, rfl⟩
                    have bf2206 : B f2206 0 160 := by have z_ := hJ2205.1 63 17; rw [ef2206] at z_; exact z_
                    have zf2206 := congrArg Int32.toInt ef2206
                    obtain ⟨f2207, ef2207⟩ : ∃ f_, h2205 63 21 = f_ := ⟨_, rfl⟩
                    have bf2207 : B f2207 0 6 := by have z_ := hJ2205.1 63 21; rw [ef2207] at z_; exact z_
                    have zf2207 := congrArg Int32.toInt ef2207
                    obtain ⟨f2208, ef2208⟩ : ∃ f_, h2205 63 20 = f_ := ⟨_, rfl⟩
                    have zf2208 := congrArg Int32.toInt ef2208
                    obtain ⟨f2209, ef2209⟩ : ∃ f_, h2205 63 19 = f_ := ⟨_, rfl⟩
                    have bf2209 : B f2209 0 3 := by have z_ := hJ2205.1 63 19; rw [ef2209] at z_; exact z_
                    have zf2209 := congrArg Int32.toInt ef2209
                    have z2210 := congrArg Int32.toInt (rd_w k2205 (rd_o k2199 (rd_a k2196 (rd_a k2194 (rd_w k2177 (rd_w k2170 (rd_w k2163 (rd_w k2157 z1824 rfl) rfl) rfl) rfl) rfl) rfl) rfl) rfl)
                    refine ev_goto rfl rfl ?_
                    exact (EvQ.drop 3 (ih19 1 w1819 h2205 ((by decide : B 1 1 1).mono (by decide) (by decide)) b1821 hJ2205 (rd_w k2205 (rd_o k2199 (rd_a k2196 (rd_a k2194 (rd_w k2177 (rd_w k2170 (rd_w k2163 (rd_w k2157 z1824 rfl) rfl) rfl) rfl) rfl) rfl) rfl) rfl) (by have z0_ := congrArg Int32.toInt (rd_w k2205 (rd_o k2199 (rd_a k2196 (rd_a k2194 (rd_w k2177 (rd_w k2170 (rd_w k2163 (rd_w k2157 ef1829 rfl) rfl) rfl) rfl) rfl) rfl) rfl) rfl); have z1_ := congrArg Int32.toInt (rd_w k2205 (rd_s k2199) rfl); have z2_ := congrArg Int32.toInt (rd_w k2205 (rd_o k2199 (rd_a k2196 (rd_s k2194) rfl) rfl) rfl); have z_ := w_lits; have zl_ := l_lits; omega) (by have z0_ := congrArg Int32.toInt (rd_w k2205 (rd_o k2199 (rd_a k2196 (rd_a k2194 (rd_w k2177 (rd_w k2170 (rd_w k2163 (rd_w k2157 ef1829 rfl) rfl) rfl) rfl) rfl) rfl) rfl) rfl); have z1_ := congrArg Int32.toInt (rd_w k2205 (rd_s k2199) rfl); have z2_ := congrArg Int32.toInt (rd_w k2205 (rd_o k2199 (rd_a k2196 (rd_s k2194) rfl) rfl) rfl); have z3_ := congrArg Int32.toInt (rd_w k2205 (rd_o k2199 (rd_a k2196 (rd_o k2194 (rd_w k2177 (rd_w k2170 (rd_w k2163 (rd_w k2157 ef1832 rfl) rfl) rfl) rfl) rfl) rfl) rfl) rfl); have z_ := w_lits; have zl_ := l_lits; omega) (by have z0_ := congrArg Int32.toInt (rd_w k2205 (rd_o k2199 (rd_a k2196 (rd_a k2194 (rd_w k2177 (rd_w k2170 (rd_w k2163 (rd_w k2157 ef1829 rfl) rfl) rfl) rfl) rfl) rfl) rfl) rfl); have z1_ := congrArg Int32.toInt (rd_w k2205 (rd_s k2199) rfl); have z2_ := congrArg Int32.toInt (rd_w k2205 (rd_o k2199 (rd_a k2196 (rd_o k2194 (rd_w k2177 (rd_w k2170 (rd_w k2163 (rd_w k2157 ef1832 rfl) rfl) rfl) rfl) rfl) rfl) rfl) rfl); have z3_ := congrArg Int32.toInt (rd_w k2205 (rd_o k2199 (rd_a k2196 (rd_o k2194 (rd_w k2177 (rd_w k2170 (rd_w k2163 (rd_w k2157 ef1833 rfl) rfl) rfl) rfl) rfl) rfl) rfl) rfl); have z_ := w_lits; have zl_ := l_lits; omega) (by have z0_ := congrArg Int32.toInt (rd_w k2205 (rd_o k2199 (rd_a k2196 (rd_a k2194 (rd_w k2177 (rd_w k2170 (rd_w k2163 (rd_w k2157 ef1829 rfl) rfl) rfl) rfl) rfl) rfl) rfl) rfl); have z1_ := congrArg Int32.toInt (rd_w k2205 (rd_s k2199) rfl); have z2_ := congrArg Int32.toInt (rd_w k2205 (rd_o k2199 (rd_a k2196 (rd_o k2194 (rd_w k2177 (rd_w k2170 (rd_w k2163 (rd_w k2157 ef1833 rfl) rfl) rfl) rfl) rfl) rfl) rfl) rfl); have z3_ := congrArg Int32.toInt (rd_w k2205 (rd_o k2199 (rd_a k2196 (rd_o k2194 (rd_w k2177 (rd_w k2170 (rd_w k2163 (rd_w k2157 ef1834 rfl) rfl) rfl) rfl) rfl) rfl) rfl) rfl); have z_ := w_lits; have zl_ := l_lits; omega) (by have z0_ := congrArg Int32.toInt (rd_w k2205 (rd_o k2199 (rd_a k2196 (rd_a k2194 (rd_w k2177 (rd_w k2170 (rd_w k2163 (rd_w k2157 z1824 rfl) rfl) rfl) rfl) rfl) rfl) rfl) rfl); have z1_ := congrArg Int32.toInt ef2206; have z_ := w_lits; have zl_ := l_lits; omega) (by have z0_ := congrArg Int32.toInt ef2207; have z1_ := congrArg Int32.toInt ef2208; have z2_ := congrArg Int32.toInt ef2209; have z_ := w_lits; have zl_ := l_lits; omega) (mM_dec hm19 (by have z0_ := congrArg Int32.toInt (rd_w k2205 (rd_o k2199 (rd_a k2196 (rd_a k2194 (rd_w k2177 (rd_w k2170 (rd_w k2163 (rd_w k2157 z1824 rfl) rfl) rfl) rfl) rfl) rfl) rfl) rfl); have z1_ := congrArg Int32.toInt ef2206; have z2_ := congrArg Int32.toInt ef2207; have z3_ := congrArg Int32.toInt ef2208; have z4_ := congrArg Int32.toInt ef2209; have z5_ := congrArg Int32.toInt (rd_w k2205 (rd_o k2199 (rd_a k2196 (rd_a k2194 (rd_w k2177 (rd_w k2170 (rd_w k2163 (rd_w k2157 ef1829 rfl) rfl) rfl) rfl) rfl) rfl) rfl) rfl); have z6_ := congrArg Int32.toInt (rd_w k2205 (rd_s k2199) rfl); have z7_ := congrArg Int32.toInt (rd_w k2205 (rd_o k2199 (rd_a k2196 (rd_s k2194) rfl) rfl) rfl); have z8_ := congrArg Int32.toInt (rd_w k2205 (rd_o k2199 (rd_a k2196 (rd_o k2194 (rd_w k2177 (rd_w k2170 (rd_w k2163 (rd_w k2157 ef1832 rfl) rfl) rfl) rfl) rfl) rfl) rfl) rfl); have z9_ := congrArg Int32.toInt (rd_w k2205 (rd_o k2199 (rd_a k2196 (rd_o k2194 (rd_w k2177 (rd_w k2170 (rd_w k2163 (rd_w k2157 ef1833 rfl) rfl) rfl) rfl) rfl) rfl) rfl) rfl); have z10_ := congrArg Int32.toInt (rd_w k2205 (rd_o k2199 (rd_a k2196 (rd_o k2194 (rd_w k2177 (rd_w k2170 (rd_w k2163 (rd_w k2157 ef1834 rfl) rfl) rfl) rfl) rfl) rfl) rfl) rfl); have z_ := w_lits; have zl_ := l_lits; omega) (by have z0_ := congrArg Int32.toInt (rd_w k2205 (rd_o k2199 (rd_a k2196 (rd_a k2194 (rd_w k2177 (rd_w k2170 (rd_w k2163 (rd_w k2157 z1824 rfl) rfl) rfl) rfl) rfl) rfl) rfl) rfl); have z1_ := congrArg Int32.toInt ef2206; have z2_ := congrArg Int32.toInt ef2207; have z3_ := congrArg Int32.toInt ef2208; have z4_ := congrArg Int32.toInt ef2209; have z5_ := congrArg Int32.toInt (rd_w k2205 (rd_o k2199 (rd_a k2196 (rd_a k2194 (rd_w k2177 (rd_w k2170 (rd_w k2163 (rd_w k2157 ef1829 rfl) rfl) rfl) rfl) rfl) rfl) rfl) rfl); have z6_ := congrArg Int32.toInt (rd_w k2205 (rd_s k2199) rfl); have z7_ := congrArg Int32.toInt (rd_w k2205 (rd_o k2199 (rd_a k2196 (rd_s k2194) rfl) rfl) rfl); have z8_ := congrArg Int32.toInt (rd_w k2205 (rd_o k2199 (rd_a k2196 (rd_o k2194 (rd_w k2177 (rd_w k2170 (rd_w k2163 (rd_w k2157 ef1832 rfl) rfl) rfl) rfl) rfl) rfl) rfl) rfl); have z9_ := congrArg Int32.toInt (rd_w k2205 (rd_o k2199 (rd_a k2196 (rd_o k2194 (rd_w k2177 (rd_w k2170 (rd_w k2163 (rd_w k2157 ef1833 rfl) rfl) rfl) rfl) rfl) rfl) rfl) rfl); have z10_ := congrArg Int32.toInt (rd_w k2205 (rd_o k2199 (rd_a k2196 (rd_o k2194 (rd_w k2177 (rd_w k2170 (rd_w k2163 (rd_w k2157 ef1834 rfl) rfl) rfl) rfl) rfl) rfl) rfl) rfl); have z_ := w_lits; have zl_ := l_lits; omega) (by have z0_ := congrArg Int32.toInt (rd_w k2205 (rd_o k2199 (rd_a k2196 (rd_a k2194 (rd_w k2177 (rd_w k2170 (rd_w k2163 (rd_w k2157 z1824 rfl) rfl) rfl) rfl) rfl) rfl) rfl) rfl); have z1_ := congrArg Int32.toInt ef2206; have z2_ := congrArg Int32.toInt ef2207; have z3_ := congrArg Int32.toInt ef2208; have z4_ := congrArg Int32.toInt ef2209; have z5_ := congrArg Int32.toInt (rd_w k2205 (rd_o k2199 (rd_a k2196 (rd_a k2194 (rd_w k2177 (rd_w k2170 (rd_w k2163 (rd_w k2157 ef1829 rfl) rfl) rfl) rfl) rfl) rfl) rfl) rfl); have z6_ := congrArg Int32.toInt (rd_w k2205 (rd_s k2199) rfl); have z7_ := congrArg Int32.toInt (rd_w k2205 (rd_o k2199 (rd_a k2196 (rd_s k2194) rfl) rfl) rfl); have z8_ := congrArg Int32.toInt (rd_w k2205 (rd_o k2199 (rd_a k2196 (rd_o k2194 (rd_w k2177 (rd_w k2170 (rd_w k2163 (rd_w k2157 ef1832 rfl) rfl) rfl) rfl) rfl) rfl) rfl) rfl); have z9_ := congrArg Int32.toInt (rd_w k2205 (rd_o k2199 (rd_a k2196 (rd_o k2194 (rd_w k2177 (rd_w k2170 (rd_w k2163 (rd_w k2157 ef1833 rfl) rfl) rfl) rfl) rfl) rfl) rfl) rfl); have z10_ := congrArg Int32.toInt (rd_w k2205 (rd_o k2199 (rd_a k2196 (rd_o k2194 (rd_w k2177 (rd_w k2170 (rd_w k2163 (rd_w k2157 ef1834 rfl) rfl) rfl) rfl) rfl) rfl) rfl) rfl); have z_ := w_lits; have zl_ := l_lits; omega))))
                  · refine ev_aload_n rfl rfl rfl ?_
                    refine ev_getV (v := f1829) rfl rfl fl_X10_234 rfl rfl rfl (rd_w k2177 (rd_w k2170 (rd_w k2163 (rd_w k2157 ef1829 rfl) rfl) rfl) rfl) ?_
                    refine ev_iasK (j := 1) (n := 5) (l := 0) (u := 60) hJ2177 (by decide : B 1 1 1) (by decide) (by decide) (by decide) rfl bf1829 (by decide) (by decide) rfl rfl rfl rfl rfl (fun h2211 hJ2211 k2211 => ?_)
                    refine ev_aload_n rfl rfl rfl ?_
                    refine ev_getR (y := 77) rfl rfl fl_X10_63 rfl rfl rfl rfl ?_
                    refine ev_aload_n rfl rfl rfl ?_
                    refine ev_getV (v := 1) rfl rfl fl_X10_241 rfl rfl rfl (rd_a k2211 (rd_w k2177 (rd_w k2170 (rd_w k2163 (rd_w k2157 ef1830 rfl) rfl) rfl) rfl) rfl) ?_
                    refine ev_iload_n rfl rfl rfl ?_
                    have b2212 : B f1827 0 20 := ⟨(by have z0_ := congrArg Int32.toInt (rd_a k2211 (rd_w k2177 (rd_w k2170 (rd_w k2163 (rd_w k2157 z1824 rfl) rfl) rfl) rfl) rfl); have z1_ := congrArg Int32.toInt (rd_a k2211 (rd_w k2177 (rd_w k2170 ef2164 rfl) rfl) rfl); have z2_ := congrArg Int32.toInt (rd_a k2211 ef2178 rfl); have z3_ := congrArg Int32.toInt (rd_a k2211 (rd_w k2177 (rd_w k2170 ef2166 rfl) rfl) rfl); have z4_ := congrArg Int32.toInt (rd_a k2211 (rd_w k2177 (rd_w k2170 ef2167 rfl) rfl) rfl); have z5_ := congrArg Int32.toInt (rd_a k2211 (rd_w k2177 (rd_w k2170 (rd_w k2163 (rd_w k2157 ef1829 rfl) rfl) rfl) rfl) rfl); have z6_ := congrArg Int32.toInt (rd_a k2211 (rd_w k2177 (rd_w k2170 (rd_w k2163 (rd_w k2157 ef1830 rfl) rfl) rfl) rfl) rfl); have z7_ := congrArg Int32.toInt (rd_o k2211 (rd_w k2177 (rd_w k2170 (rd_w k2163 (rd_w k2157 ef1831 rfl) rfl) rfl) rfl) rfl); have z8_ := congrArg Int32.toInt (rd_s k2211); have z9_ := congrArg Int32.toInt (rd_o k2211 (rd_w k2177 (rd_w k2170 (rd_w k2163 (rd_w k2157 ef1833 rfl) rfl) rfl) rfl) rfl); have z10_ := congrArg Int32.toInt (rd_o k2211 (rd_w k2177 (rd_w k2170 (rd_w k2163 (rd_w k2157 ef1834 rfl) rfl) rfl) rfl) rfl); have z_ := w_lits; have zl_ := l_lits; omega), (by have z0_ := congrArg Int32.toInt (rd_a k2211 (rd_w k2177 (rd_w k2170 (rd_w k2163 (rd_w k2157 z1824 rfl) rfl) rfl) rfl) rfl); have z1_ := congrArg Int32.toInt (rd_a k2211 (rd_w k2177 (rd_w k2170 ef2164 rfl) rfl) rfl); have z2_ := congrArg Int32.toInt (rd_a k2211 ef2178 rfl); have z3_ := congrArg Int32.toInt (rd_a k2211 (rd_w k2177 (rd_w k2170 ef2166 rfl) rfl) rfl); have z4_ := congrArg Int32.toInt (rd_a k2211 (rd_w k2177 (rd_w k2170 ef2167 rfl) rfl) rfl); have z5_ := congrArg Int32.toInt (rd_a k2211 (rd_w k2177 (rd_w k2170 (rd_w k2163 (rd_w k2157 ef1829 rfl) rfl) rfl) rfl) rfl); have z6_ := congrArg Int32.toInt (rd_a k2211 (rd_w k2177 (rd_w k2170 (rd_w k2163 (rd_w k2157 ef1830 rfl) rfl) rfl) rfl) rfl); have z7_ := congrArg Int32.toInt (rd_o k2211 (rd_w k2177 (rd_w k2170 (rd_w k2163 (rd_w k2157 ef1831 rfl) rfl) rfl) rfl) rfl); have z8_ := congrArg Int32.toInt (rd_s k2211); have z9_ := congrArg Int32.toInt (rd_o k2211 (rd_w k2177 (rd_w k2170 (rd_w k2163 (rd_w k2157 ef1833 rfl) rfl) rfl) rfl) rfl); have z10_ := congrArg Int32.toInt (rd_o k2211 (rd_w k2177 (rd_w k2170 (rd_w k2163 (rd_w k2157 ef1834 rfl) rfl) rfl) rfl) rfl); have z_ := w_lits; have zl_ := l_lits; omega)⟩
                    refine ev_iasW (n := 5) (l := 0) (u := 20) hJ2211 (by decide : B 1 1 1) (by decide) (by decide) (fun _ => rfl) b2212 (by decide) (by decide) (fun _ => rfl) rfl rfl rfl rfl (fun h2213 hJ2213 k2213 => ?_)
                    refine ev_aload_n rfl rfl rfl ?_
                    refine ev_dup rfl rfl rfl ?_
                    refine ev_getV (v := 1) rfl rfl fl_X10_241 rfl rfl rfl (rd_a k2213 (rd_a k2211 (rd_w k2177 (rd_w k2170 (rd_w k2163 (rd_w k2157 ef1830 rfl) rfl) rfl) rfl) rfl) rfl) ?_
                    refine ev_iconst (v := 1) rfl rfl (by decide) ?_
                    refine ev_iaddB (l := 2) (u := 2) rfl rfl (by decide : B 1 1 1) (by decide : B 1 1 1) (by decide) (by decide) (by decide) (by decide) (fun v2214 b2214 e2214 g2214 => ?_)
                    have e2214x := e2214; rw [show (1 : Int32).toInt = 1 from by decide] at e2214x
                    have b2215 : B v2214 0 4 := ⟨(by have z0_ := congrArg Int32.toInt (rd_a k2213 (rd_a k2211 (rd_w k2177 (rd_w k2170 (rd_w k2163 (rd_w k2157 z1824 rfl) rfl) rfl) rfl) rfl) rfl); have z1_ := congrArg Int32.toInt (rd_a k2213 (rd_a k2211 (rd_w k2177 (rd_w k2170 ef2164 rfl) rfl) rfl) rfl); have z2_ := congrArg Int32.toInt (rd_a k2213 (rd_a k2211 ef2178 rfl) rfl); have z3_ := congrArg Int32.toInt (rd_a k2213 (rd_a k2211 (rd_w k2177 (rd_w k2170 ef2166 rfl) rfl) rfl) rfl); have z4_ := congrArg Int32.toInt (rd_a k2213 (rd_a k2211 (rd_w k2177 (rd_w k2170 ef2167 rfl) rfl) rfl) rfl); have z5_ := congrArg Int32.toInt (rd_a k2213 (rd_a k2211 (rd_w k2177 (rd_w k2170 (rd_w k2163 (rd_w k2157 ef1829 rfl) rfl) rfl) rfl) rfl) rfl); have z6_ := congrArg Int32.toInt (rd_a k2213 (rd_a k2211 (rd_w k2177 (rd_w k2170 (rd_w k2163 (rd_w k2157 ef1830 rfl) rfl) rfl) rfl) rfl) rfl); have z7_ := congrArg Int32.toInt (rd_a k2213 (rd_o k2211 (rd_w k2177 (rd_w k2170 (rd_w k2163 (rd_w k2157 ef1831 rfl) rfl) rfl) rfl) rfl) rfl); have z8_ := congrArg Int32.toInt (rd_a k2213 (rd_s k2211) rfl); have z9_ := congrArg Int32.toInt (rd_a k2213 (rd_o k2211 (rd_w k2177 (rd_w k2170 (rd_w k2163 (rd_w k2157 ef1833 rfl) rfl) rfl) rfl) rfl) rfl); have z10_ := congrArg Int32.toInt (rd_a k2213 (rd_o k2211 (rd_w k2177 (rd_w k2170 (rd_w k2163 (rd_w k2157 ef1834 rfl) rfl) rfl) rfl) rfl) rfl); have z_ := w_lits; have zl_ := l_lits; omega), (by have z0_ := congrArg Int32.toInt (rd_a k2213 (rd_a k2211 (rd_w k2177 (rd_w k2170 (rd_w k2163 (rd_w k2157 z1824 rfl) rfl) rfl) rfl) rfl) rfl); have z1_ := congrArg Int32.toInt (rd_a k2213 (rd_a k2211 (rd_w k2177 (rd_w k2170 ef2164 rfl) rfl) rfl) rfl); have z2_ := congrArg Int32.toInt (rd_a k2213 (rd_a k2211 ef2178 rfl) rfl); have z3_ := congrArg Int32.toInt (rd_a k2213 (rd_a k2211 (rd_w k2177 (rd_w k2170 ef2166 rfl) rfl) rfl) rfl); have z4_ := congrArg Int32.toInt (rd_a k2213 (rd_a k2211 (rd_w k2177 (rd_w k2170 ef2167 rfl) rfl) rfl) rfl); have z5_ := congrArg Int32.toInt (rd_a k2213 (rd_a k2211 (rd_w k2177 (rd_w k2170 (rd_w k2163 (rd_w k2157 ef1829 rfl) rfl) rfl) rfl) rfl) rfl); have z6_ := congrArg Int32.toInt (rd_a k2213 (rd_a k2211 (rd_w k2177 (rd_w k2170 (rd_w k2163 (rd_w k2157 ef1830 rfl) rfl) rfl) rfl) rfl) rfl); have z7_ := congrArg Int32.toInt (rd_a k2213 (rd_o k2211 (rd_w k2177 (rd_w k2170 (rd_w k2163 (rd_w k2157 ef1831 rfl) rfl) rfl) rfl) rfl) rfl); have z8_ := congrArg Int32.toInt (rd_a k2213 (rd_s k2211) rfl); have z9_ := congrArg Int32.toInt (rd_a k2213 (rd_o k2211 (rd_w k2177 (rd_w k2170 (rd_w k2163 (rd_w k2157 ef1833 rfl) rfl) rfl) rfl) rfl) rfl); have z10_ := congrArg Int32.toInt (rd_a k2213 (rd_o k2211 (rd_w k2177 (rd_w k2170 (rd_w k2163 (rd_w k2157 ef1834 rfl) rfl) rfl) rfl) rfl) rfl); have z_ := w_lits; have zl_ := l_lits; omega)⟩
                    refine ev_putW (l := 0) (u := 4) hJ2213 rfl b2215 (by decide) (by decide) rfl rfl rfl fl_X10_241 rfl rfl rfl rfl rfl (fun h2216 hJ2216 k2216 => ?_)
                    refine ev_iconst (v := 1) rfl rfl (by decide) ?_
                    refine ev_istore_n rfl rfl rfl rfl ?_
                    dsimp only [List.set]
                    refine ev_aload_n rfl rfl rfl ?_
                    have z2217 := congrArg Int32.toInt (rd_o k2216 (rd_a k2213 (rd_a k2211 (rd_w k2177 (rd_w k2170 (rd_w k2163 (rd_w k2157 z1824 rfl) rfl) rfl) rfl) rfl) rfl) rfl)
                    have z2218 := congrArg Int32.toInt (rd_o k2216 (rd_a k2213 (rd_a k2211 (rd_w k2177 (rd_w k2170 ef2164 rfl) rfl) rfl) rfl) rfl)
                    have z2219 := congrArg Int32.toInt (rd_o k2216 (rd_a k2213 (rd_a k2211 ef2178 rfl) rfl) rfl)
                    have z2220 := congrArg Int32.toInt (rd_o k2216 (rd_a k2213 (rd_a k2211 (rd_w k2177 (rd_w k2170 ef2166 rfl) rfl) rfl) rfl) rfl)
                    have z2221 := congrArg Int32.toInt (rd_o k2216 (rd_a k2213 (rd_a k2211 (rd_w k2177 (rd_w k2170 ef2167 rfl) rfl) rfl) rfl) rfl)
                    refine ev_V0K hJ2216 rfl rfl rfl lk_X10_251 vt_X10_next rfl rfl rfl rfl rfl (w_X10_next_63 L b h2216 hJ2216.1 (by have z0_ := congrArg Int32.toInt (rd_o k2216 (rd_a k2213 (rd_a k2211 (rd_w k2177 (rd_w k2170 (rd_w k2163 (rd_w k2157 z1824 rfl) rfl) rfl) rfl) rfl) rfl) rfl); have z1_ := congrArg Int32.toInt (rd_o k2216 (rd_a k2213 (rd_a k2211 (rd_w k2177 (rd_w k2170 ef2164 rfl) rfl) rfl) rfl) rfl); have z_ := w_lits; have zl_ := l_lits; omega)) (fun h2222 hJ2222 k2222 m2222 => ?_)
                    obtain ⟨m2222_0, m2222_1, m2222_2, m2222_3, m2222_4⟩ := m2222
                    obtain ⟨f2223, ef2223⟩ : ∃ f_, h2222 63 17 = f_ := ⟨_, rfl⟩
                    have bf2223 : B f2223 0 160 := by have z_ := hJ2222.1 63 17; rw [ef2223] at z_; exact z_
                    have zf2223 := congrArg Int32.toInt ef2223
                    obtain ⟨f2224, ef2224⟩ : ∃ f_, h2222 63 21 = f_ := ⟨_, rfl⟩
                    have bf2224 : B f2224 0 6 := by have z_ := hJ2222.1 63 21; rw [ef2224] at z_; exact z_
                    have zf2224 := congrArg Int32.toInt ef2224
                    obtain ⟨f2225, ef2225⟩ : ∃ f_, h2222 63 20 = f_ := ⟨_, rfl⟩
                    have zf2225 := congrArg Int32.toInt ef2225
                    obtain ⟨f2226, ef2226⟩ : ∃ f_, h2222 63 19 = f_ := ⟨_, rfl⟩
                    have bf2226 : B f2226 0 3 := by have z_ := hJ2222.1 63 19; rw [ef2226] at z_; exact z_
                    have zf2226 := congrArg Int32.toInt ef2226
                    have z2227 := congrArg Int32.toInt (rd_w k2222 (rd_o k2216 (rd_a k2213 (rd_a k2211 (rd_w k2177 (rd_w k2170 (rd_w k2163 (rd_w k2157 z1824 rfl) rfl) rfl) rfl) rfl) rfl) rfl) rfl)
                    refine ev_goto rfl rfl ?_
                    exact (EvQ.drop 3 (ih19 1 w1819 h2222 ((by decide : B 1 1 1).mono (by decide) (by decide)) b1821 hJ2222 (rd_w k2222 (rd_o k2216 (rd_a k2213 (rd_a k2211 (rd_w k2177 (rd_w k2170 (rd_w k2163 (rd_w k2157 z1824 rfl) rfl) rfl) rfl) rfl) rfl) rfl) rfl) (by have z0_ := congrArg Int32.toInt (rd_w k2222 (rd_o k2216 (rd_a k2213 (rd_a k2211 (rd_w k2177 (rd_w k2170 (rd_w k2163 (rd_w k2157 ef1829 rfl) rfl) rfl) rfl) rfl) rfl) rfl) rfl); have z1_ := congrArg Int32.toInt (rd_w k2222 (rd_s k2216) rfl); have z2_ := congrArg Int32.toInt (rd_w k2222 (rd_o k2216 (rd_a k2213 (rd_o k2211 (rd_w k2177 (rd_w k2170 (rd_w k2163 (rd_w k2157 ef1831 rfl) rfl) rfl) rfl) rfl) rfl) rfl) rfl); have z_ := w_lits; have zl_ := l_lits; omega) (by have z0_ := congrArg Int32.toInt (rd_w k2222 (rd_o k2216 (rd_a k2213 (rd_a k2211 (rd_w k2177 (rd_w k2170 (rd_w k2163 (rd_w k2157 ef1829 rfl) rfl) rfl) rfl) rfl) rfl) rfl) rfl); have z1_ := congrArg Int32.toInt (rd_w k2222 (rd_s k2216) rfl); have z2_ := congrArg Int32.toInt (rd_w k2222 (rd_o k2216 (rd_a k2213 (rd_o k2211 (rd_w k2177 (rd_w k2170 (rd_w k2163 (rd_w k2157 ef1831 rfl) rfl) rfl) rfl) rfl) rfl) rfl) rfl); have z3_ := congrArg Int32.toInt (rd_w k2222 (rd_o k2216 (rd_a k2213 (rd_s k2211) rfl) rfl) rfl); have z_ := w_lits; have zl_ := l_lits; omega) (by have z0_ := congrArg Int32.toInt (rd_w k2222 (rd_o k2216 (rd_a k2213 (rd_a k2211 (rd_w k2177 (rd_w k2170 (rd_w k2163 (rd_w k2157 ef1829 rfl) rfl) rfl) rfl) rfl) rfl) rfl) rfl); have z1_ := congrArg Int32.toInt (rd_w k2222 (rd_s k2216) rfl); have z2_ := congrArg Int32.toInt (rd_w k2222 (rd_o k2216 (rd_a k2213 (rd_s k2211) rfl) rfl) rfl); have z3_ := congrArg Int32.toInt (rd_w k2222 (rd_o k2216 (rd_a k2213 (rd_o k2211 (rd_w k2177 (rd_w k2170 (rd_w k2163 (rd_w k2157 ef1833 rfl) rfl) rfl) rfl) rfl) rfl) rfl) rfl); have z_ := w_lits; have zl_ := l_lits; omega) (by have z0_ := congrArg Int32.toInt (rd_w k2222 (rd_o k2216 (rd_a k2213 (rd_a k2211 (rd_w k2177 (rd_w k2170 (rd_w k2163 (rd_w k2157 ef1829 rfl) rfl) rfl) rfl) rfl) rfl) rfl) rfl); have z1_ := congrArg Int32.toInt (rd_w k2222 (rd_s k2216) rfl); have z2_ := congrArg Int32.toInt (rd_w k2222 (rd_o k2216 (rd_a k2213 (rd_o k2211 (rd_w k2177 (rd_w k2170 (rd_w k2163 (rd_w k2157 ef1833 rfl) rfl) rfl) rfl) rfl) rfl) rfl) rfl); have z3_ := congrArg Int32.toInt (rd_w k2222 (rd_o k2216 (rd_a k2213 (rd_o k2211 (rd_w k2177 (rd_w k2170 (rd_w k2163 (rd_w k2157 ef1834 rfl) rfl) rfl) rfl) rfl) rfl) rfl) rfl); have z_ := w_lits; have zl_ := l_lits; omega) (by have z0_ := congrArg Int32.toInt (rd_w k2222 (rd_o k2216 (rd_a k2213 (rd_a k2211 (rd_w k2177 (rd_w k2170 (rd_w k2163 (rd_w k2157 z1824 rfl) rfl) rfl) rfl) rfl) rfl) rfl) rfl); have z1_ := congrArg Int32.toInt ef2223; have z_ := w_lits; have zl_ := l_lits; omega) (by have z0_ := congrArg Int32.toInt ef2224; have z1_ := congrArg Int32.toInt ef2225; have z2_ := congrArg Int32.toInt ef2226; have z_ := w_lits; have zl_ := l_lits; omega) (mM_dec hm19 (by have z0_ := congrArg Int32.toInt (rd_w k2222 (rd_o k2216 (rd_a k2213 (rd_a k2211 (rd_w k2177 (rd_w k2170 (rd_w k2163 (rd_w k2157 z1824 rfl) rfl) rfl) rfl) rfl) rfl) rfl) rfl); have z1_ := congrArg Int32.toInt ef2223; have z2_ := congrArg Int32.toInt ef2224; have z3_ := congrArg Int32.toInt ef2225; have z4_ := congrArg Int32.toInt ef2226; have z5_ := congrArg Int32.toInt (rd_w k2222 (rd_o k2216 (rd_a k2213 (rd_a k2211 (rd_w k2177 (rd_w k2170 (rd_w k2163 (rd_w k2157 ef1829 rfl) rfl) rfl) rfl) rfl) rfl) rfl) rfl); have z6_ := congrArg Int32.toInt (rd_w k2222 (rd_s k2216) rfl); have z7_ := congrArg Int32.toInt (rd_w k2222 (rd_o k2216 (rd_a k2213 (rd_o k2211 (rd_w k2177 (rd_w k2170 (rd_w k2163 (rd_w k2157 ef1831 rfl) rfl) rfl) rfl) rfl) rfl) rfl) rfl); have z8_ := congrArg Int32.toInt (rd_w k2222 (rd_o k2216 (rd_a k2213 (rd_s k2211) rfl) rfl) rfl); have z9_ := congrArg Int32.toInt (rd_w k2222 (rd_o k2216 (rd_a k2213 (rd_o k2211 (rd_w k2177 (rd_w k2170 (rd_w k2163 (rd_w k2157 ef1833 rfl) rfl) rfl) rfl) rfl) rfl) rfl) rfl); have z10_ := congrArg Int32.toInt (rd_w k2222 (rd_o k2216 (rd_a k2213 (rd_o k2211 (rd_w k2177 (rd_w k2170 (rd_w k2163 (rd_w k2157 ef1834 rfl) rfl) rfl) rfl) rfl) rfl) rfl) rfl); have z_ := w_lits; have zl_ := l_lits; omega) (by have z0_ := congrArg Int32.toInt (rd_w k2222 (rd_o k2216 (rd_a k2213 (rd_a k2211 (rd_w k2177 (rd_w k2170 (rd_w k2163 (rd_w k2157 z1824 rfl) rfl) rfl) rfl) rfl) rfl) rfl) rfl); have z1_ := congrArg Int32.toInt ef2223; have z2_ := congrArg Int32.toInt ef2224; have z3_ := congrArg Int32.toInt ef2225; have z4_ := congrArg Int32.toInt ef2226; have z5_ := congrArg Int32.toInt (rd_w k2222 (rd_o k2216 (rd_a k2213 (rd_a k2211 (rd_w k2177 (rd_w k2170 (rd_w k2163 (rd_w k2157 ef1829 rfl) rfl) rfl) rfl) rfl) rfl) rfl) rfl); have z6_ := congrArg Int32.toInt (rd_w k2222 (rd_s k2216) rfl); have z7_ := congrArg Int32.toInt (rd_w k2222 (rd_o k2216 (rd_a k2213 (rd_o k2211 (rd_w k2177 (rd_w k2170 (rd_w k2163 (rd_w k2157 ef1831 rfl) rfl) rfl) rfl) rfl) rfl) rfl) rfl); have z8_ := congrArg Int32.toInt (rd_w k2222 (rd_o k2216 (rd_a k2213 (rd_s k2211) rfl) rfl) rfl); have z9_ := congrArg Int32.toInt (rd_w k2222 (rd_o k2216 (rd_a k2213 (rd_o k2211 (rd_w k2177 (rd_w k2170 (rd_w k2163 (rd_w k2157 ef1833 rfl) rfl) rfl) rfl) rfl) rfl) rfl) rfl); have z10_ := congrArg Int32.toInt (rd_w k2222 (rd_o k2216 (rd_a k2213 (rd_o k2211 (rd_w k2177 (rd_w k2170 (rd_w k2163 (rd_w k2157 ef1834 rfl) rfl) rfl) rfl) rfl) rfl) rfl) rfl); have z_ := w_lits; have zl_ := l_lits; omega) (by have z0_ := congrArg Int32.toInt (rd_w k2222 (rd_o k2216 (rd_a k2213 (rd_a k2211 (rd_w k2177 (rd_w k2170 (rd_w k2163 (rd_w k2157 z1824 rfl) rfl) rfl) rfl) rfl) rfl) rfl) rfl); have z1_ := congrArg Int32.toInt ef2223; have z2_ := congrArg Int32.toInt ef2224; have z3_ := congrArg Int32.toInt ef2225; have z4_ := congrArg Int32.toInt ef2226; have z5_ := congrArg Int32.toInt (rd_w k2222 (rd_o k2216 (rd_a k2213 (rd_a k2211 (rd_w k2177 (rd_w k2170 (rd_w k2163 (rd_w k2157 ef1829 rfl) rfl) rfl) rfl) rfl) rfl) rfl) rfl); have z6_ := congrArg Int32.toInt (rd_w k2222 (rd_s k2216) rfl); have z7_ := congrArg Int32.toInt (rd_w k2222 (rd_o k2216 (rd_a k2213 (rd_o k2211 (rd_w k2177 (rd_w k2170 (rd_w k2163 (rd_w k2157 ef1831 rfl) rfl) rfl) rfl) rfl) rfl) rfl) rfl); have z8_ := congrArg Int32.toInt (rd_w k2222 (rd_o k2216 (rd_a k2213 (rd_s k2211) rfl) rfl) rfl); have z9_ := congrArg Int32.toInt (rd_w k2222 (rd_o k2216 (rd_a k2213 (rd_o k2211 (rd_w k2177 (rd_w k2170 (rd_w k2163 (rd_w k2157 ef1833 rfl) rfl) rfl) rfl) rfl) rfl) rfl) rfl); have z10_ := congrArg Int32.toInt (rd_w k2222 (rd_o k2216 (rd_a k2213 (rd_o k2211 (rd_w k2177 (rd_w k2170 (rd_w k2163 (rd_w k2157 ef1834 rfl) rfl) rfl) rfl) rfl) rfl) rfl) rfl); have z_ := w_lits; have zl_ := l_lits; omega))))
                  · refine ev_aload_n rfl rfl rfl ?_
                    refine ev_getV (v := f1829) rfl rfl fl_X10_234 rfl rfl rfl (rd_w k2177 (rd_w k2170 (rd_w k2163 (rd_w k2157 ef1829 rfl) rfl) rfl) rfl) ?_
                    refine ev_iasK (j := 2) (n := 5) (l := 0) (u := 60) hJ2177 (by decide : B 2 2 2) (by decide) (by decide) (by decide) rfl bf1829 (by decide) (by decide) rfl rfl rfl rfl rfl (fun h2228 hJ2228 k2228 => ?_)
                    refine ev_aload_n rfl rfl rfl ?_
                    refine ev_getR (y := 77) rfl rfl fl_X10_63 rfl rfl rfl rfl ?_
                    refine ev_aload_n rfl rfl rfl ?_
                    refine ev_getV (v := 2) rfl rfl fl_X10_241 rfl rfl rfl (rd_a k2228 (rd_w k2177 (rd_w k2170 (rd_w k2163 (rd_w k2157 ef1830 rfl) rfl) rfl) rfl) rfl) ?_
                    refine ev_iload_n rfl rfl rfl ?_
                    have b2229 : B f1827 0 20 := ⟨(by have z0_ := congrArg Int32.toInt (rd_a k2228 (rd_w k2177 (rd_w k2170 (rd_w k2163 (rd_w k2157 z1824 rfl) rfl) rfl) rfl) rfl); have z1_ := congrArg Int32.toInt (rd_a k2228 (rd_w k2177 (rd_w k2170 ef2164 rfl) rfl) rfl); have z2_ := congrArg Int32.toInt (rd_a k2228 ef2178 rfl); have z3_ := congrArg Int32.toInt (rd_a k2228 (rd_w k2177 (rd_w k2170 ef2166 rfl) rfl) rfl); have z4_ := congrArg Int32.toInt (rd_a k2228 (rd_w k2177 (rd_w k2170 ef2167 rfl) rfl) rfl); have z5_ := congrArg Int32.toInt (rd_a k2228 (rd_w k2177 (rd_w k2170 (rd_w k2163 (rd_w k2157 ef1829 rfl) rfl) rfl) rfl) rfl); have z6_ := congrArg Int32.toInt (rd_a k2228 (rd_w k2177 (rd_w k2170 (rd_w k2163 (rd_w k2157 ef1830 rfl) rfl) rfl) rfl) rfl); have z7_ := congrArg Int32.toInt (rd_o k2228 (rd_w k2177 (rd_w k2170 (rd_w k2163 (rd_w k2157 ef1831 rfl) rfl) rfl) rfl) rfl); have z8_ := congrArg Int32.toInt (rd_o k2228 (rd_w k2177 (rd_w k2170 (rd_w k2163 (rd_w k2157 ef1832 rfl) rfl) rfl) rfl) rfl); have z9_ := congrArg Int32.toInt (rd_s k2228); have z10_ := congrArg Int32.toInt (rd_o k2228 (rd_w k2177 (rd_w k2170 (rd_w k2163 (rd_w k2157 ef1834 rfl) rfl) rfl) rfl) rfl); have z_ := w_lits; have zl_ := l_lits; omega), (by have z0_ := congrArg Int32.toInt (rd_a k2228 (rd_w k2177 (rd_w k2170 (rd_w k2163 (rd_w k2157 z1824 rfl) rfl) rfl) rfl) rfl); have z1_ := congrArg Int32.toInt (rd_a k2228 (rd_w k2177 (rd_w k2170 ef2164 rfl) rfl) rfl); have z2_ := congrArg Int32.toInt (rd_a k2228 ef2178 rfl); have z3_ := congrArg Int32.toInt (rd_a k2228 (rd_w k2177 (rd_w k2170 ef2166 rfl) rfl) rfl); have z4_ := congrArg Int32.toInt (rd_a k2228 (rd_w k2177 (rd_w k2170 ef2167 rfl) rfl) rfl); have z5_ := congrArg Int32.toInt (rd_a k2228 (rd_w k2177 (rd_w k2170 (rd_w k2163 (rd_w k2157 ef1829 rfl) rfl) rfl) rfl) rfl); have z6_ := congrArg Int32.toInt (rd_a k2228 (rd_w k2177 (rd_w k2170 (rd_w k2163 (rd_w k2157 ef1830 rfl) rfl) rfl) rfl) rfl); have z7_ := congrArg Int32.toInt (rd_o k2228 (rd_w k2177 (rd_w k2170 (rd_w k2163 (rd_w k2157 ef1831 rfl) rfl) rfl) rfl) rfl); have z8_ := congrArg Int32.toInt (rd_o k2228 (rd_w k2177 (rd_w k2170 (rd_w k2163 (rd_w k2157 ef1832 rfl) rfl) rfl) rfl) rfl); have z9_ := congrArg Int32.toInt (rd_s k2228); have z10_ := congrArg Int32.toInt (rd_o k2228 (rd_w k2177 (rd_w k2170 (rd_w k2163 (rd_w k2157 ef1834 rfl) rfl) rfl) rfl) rfl); have z_ := w_lits; have zl_ := l_lits; omega)⟩
                    refine ev_iasW (n := 5) (l := 0) (u := 20) hJ2228 (by decide : B 2 2 2) (by decide) (by decide) (fun _ => rfl) b2229 (by decide) (by decide) (fun _ => rfl) rfl rfl rfl rfl (fun h2230 hJ2230 k2230 => ?_)
                    refine ev_aload_n rfl rfl rfl ?_
                    refine ev_dup rfl rfl rfl ?_
                    refine ev_getV (v := 2) rfl rfl fl_X10_241 rfl rfl rfl (rd_a k2230 (rd_a k2228 (rd_w k2177 (rd_w k2170 (rd_w k2163 (rd_w k2157 ef1830 rfl) rfl) rfl) rfl) rfl) rfl) ?_
                    refine ev_iconst (v := 1) rfl rfl (by decide) ?_
                    refine ev_iaddB (l := 3) (u := 3) rfl rfl (by decide : B 2 2 2) (by decide : B 1 1 1) (by decide) (by decide) (by decide) (by decide) (fun v2231 b2231 e2231 g2231 => ?_)
                    have e2231x := e2231; rw [show (2 : Int32).toInt = 2 from by decide] at e2231x
                    have e2231xx := e2231x; rw [show (1 : Int32).toInt = 1 from by decide] at e2231xx
                    have b2232 : B v2231 0 4 := ⟨(by have z0_ := congrArg Int32.toInt (rd_a k2230 (rd_a k2228 (rd_w k2177 (rd_w k2170 (rd_w k2163 (rd_w k2157 z1824 rfl) rfl) rfl) rfl) rfl) rfl); have z1_ := congrArg Int32.toInt (rd_a k2230 (rd_a k2228 (rd_w k2177 (rd_w k2170 ef2164 rfl) rfl) rfl) rfl); have z2_ := congrArg Int32.toInt (rd_a k2230 (rd_a k2228 ef2178 rfl) rfl); have z3_ := congrArg Int32.toInt (rd_a k2230 (rd_a k2228 (rd_w k2177 (rd_w k2170 ef2166 rfl) rfl) rfl) rfl); have z4_ := congrArg Int32.toInt (rd_a k2230 (rd_a k2228 (rd_w k2177 (rd_w k2170 ef2167 rfl) rfl) rfl) rfl); have z5_ := congrArg Int32.toInt (rd_a k2230 (rd_a k2228 (rd_w k2177 (rd_w k2170 (rd_w k2163 (rd_w k2157 ef1829 rfl) rfl) rfl) rfl) rfl) rfl); have z6_ := congrArg Int32.toInt (rd_a k2230 (rd_a k2228 (rd_w k2177 (rd_w k2170 (rd_w k2163 (rd_w k2157 ef1830 rfl) rfl) rfl) rfl) rfl) rfl); have z7_ := congrArg Int32.toInt (rd_a k2230 (rd_o k2228 (rd_w k2177 (rd_w k2170 (rd_w k2163 (rd_w k2157 ef1831 rfl) rfl) rfl) rfl) rfl) rfl); have z8_ := congrArg Int32.toInt (rd_a k2230 (rd_o k2228 (rd_w k2177 (rd_w k2170 (rd_w k2163 (rd_w k2157 ef1832 rfl) rfl) rfl) rfl) rfl) rfl); have z9_ := congrArg Int32.toInt (rd_a k2230 (rd_s k2228) rfl); have z10_ := congrArg Int32.toInt (rd_a k2230 (rd_o k2228 (rd_w k2177 (rd_w k2170 (rd_w k2163 (rd_w k2157 ef1834 rfl) rfl) rfl) rfl) rfl) rfl); have z_ := w_lits; have zl_ := l_lits; omega), (by have z0_ := congrArg Int32.toInt (rd_a k2230 (rd_a k2228 (rd_w k2177 (rd_w k2170 (rd_w k2163 (rd_w k2157 z1824 rfl) rfl) rfl) rfl) rfl) rfl); have z1_ := congrArg Int32.toInt (rd_a k2230 (rd_a k2228 (rd_w k2177 (rd_w k2170 ef2164 rfl) rfl) rfl) rfl); have z2_ := congrArg Int32.toInt (rd_a k2230 (rd_a k2228 ef2178 rfl) rfl); have z3_ := congrArg Int32.toInt (rd_a k2230 (rd_a k2228 (rd_w k2177 (rd_w k2170 ef2166 rfl) rfl) rfl) rfl); have z4_ := congrArg Int32.toInt (rd_a k2230 (rd_a k2228 (rd_w k2177 (rd_w k2170 ef2167 rfl) rfl) rfl) rfl); have z5_ := congrArg Int32.toInt (rd_a k2230 (rd_a k2228 (rd_w k2177 (rd_w k2170 (rd_w k2163 (rd_w k2157 ef1829 rfl) rfl) rfl) rfl) rfl) rfl); have z6_ := congrArg Int32.toInt (rd_a k2230 (rd_a k2228 (rd_w k2177 (rd_w k2170 (rd_w k2163 (rd_w k2157 ef1830 rfl) rfl) rfl) rfl) rfl) rfl); have z7_ := congrArg Int32.toInt (rd_a k2230 (rd_o k2228 (rd_w k2177 (rd_w k2170 (rd_w k2163 (rd_w k2157 ef1831 rfl) rfl) rfl) rfl) rfl) rfl); have z8_ := congrArg Int32.toInt (rd_a k2230 (rd_o k2228 (rd_w k2177 (rd_w k2170 (rd_w k2163 (rd_w k2157 ef1832 rfl) rfl) rfl) rfl) rfl) rfl); have z9_ := congrArg Int32.toInt (rd_a k2230 (rd_s k2228) rfl); have z10_ := congrArg Int32.toInt (rd_a k2230 (rd_o k2228 (rd_w k2177 (rd_w k2170 (rd_w k2163 (rd_w k2157 ef1834 rfl) rfl) rfl) rfl) rfl) rfl); have z_ := w_lits; have zl_ := l_lits; omega)⟩
                    refine ev_putW (l := 0) (u := 4) hJ2230 rfl b2232 (by decide) (by decide) rfl rfl rfl fl_X10_241 rfl rfl rfl rfl rfl (fun h2233 hJ2233 k2233 => ?_)
                    refine ev_iconst (v := 1) rfl rfl (by decide) ?_
                    refine ev_istore_n rfl rfl rfl rfl ?_
                    dsimp only [List.set]
                    refine ev_aload_n rfl rfl rfl ?_
                    have z2234 := congrArg Int32.toInt (rd_o k2233 (rd_a k2230 (rd_a k2228 (rd_w k2177 (rd_w k2170 (rd_w k2163 (rd_w k2157 z1824 rfl) rfl) rfl) rfl) rfl) rfl) rfl)
                    have z2235 := congrArg Int32.toInt (rd_o k2233 (rd_a k2230 (rd_a k2228 (rd_w k2177 (rd_w k2170 ef2164 rfl) rfl) rfl) rfl) rfl)
                    have z2236 := congrArg Int32.toInt (rd_o k2233 (rd_a k2230 (rd_a k2228 ef2178 rfl) rfl) rfl)
                    have z2237 := congrArg Int32.toInt (rd_o k2233 (rd_a k2230 (rd_a k2228 (rd_w k2177 (rd_w k2170 ef2166 rfl) rfl) rfl) rfl) rfl)
                    have z2238 := congrArg Int32.toInt (rd_o k2233 (rd_a k2230 (rd_a k2228 (rd_w k2177 (rd_w k2170 ef2167 rfl) rfl) rfl) rfl) rfl)
                    refine ev_V0K hJ2233 rfl rfl rfl lk_X10_251 vt_X10_next rfl rfl rfl rfl rfl (w_X10_next_63 L b h2233 hJ2233.1 (by have z0_ := congrArg Int32.toInt (rd_o k2233 (rd_a k2230 (rd_a k2228 (rd_w k2177 (rd_w k2170 (rd_w k2163 (rd_w k2157 z1824 rfl) rfl) rfl) rfl) rfl) rfl) rfl); have z1_ := congrArg Int32.toInt (rd_o k2233 (rd_a k2230 (rd_a k2228 (rd_w k2177 (rd_w k2170 ef2164 rfl) rfl) rfl) rfl) rfl); have z_ := w_lits; have zl_ := l_lits; omega)) (fun h2239 hJ2239 k2239 m2239 => ?_)
                    obtain ⟨m2239_0, m2239_1, m2239_2, m2239_3, m2239_4⟩ := m2239
                    obtain ⟨f2240, ef2240⟩ : ∃ f_, h2239 63 17 = f_ := ⟨_, rfl⟩
                    have bf2240 : B f2240 0 160 := by have z_ := hJ2239.1 63 17; rw [ef2240] at z_; exact z_
                    have zf2240 := congrArg Int32.toInt ef2240
                    obtain ⟨f2241, ef2241⟩ : ∃ f_, h2239 63 21 = f_ := ⟨_, rfl⟩
                    have bf2241 : B f2241 0 6 := by have z_ := hJ2239.1 63 21; rw [ef2241] at z_; exact z_
                    have zf2241 := congrArg Int32.toInt ef2241
                    obtain ⟨f2242, ef2242⟩ : ∃ f_, h2239 63 20 = f_ := ⟨_, rfl⟩
                    have zf2242 := congrArg Int32.toInt ef2242
                    obtain ⟨f2243, ef2243⟩ : ∃ f_, h2239 63 19 = f_ := ⟨_, rfl⟩
                    have bf2243 : B f2243 0 3 := by have z_ := hJ2239.1 63 19; rw [ef2243] at z_; exact z_
                    have zf2243 := congrArg Int32.toInt ef2243
                    have z2244 := congrArg Int32.toInt (rd_w k2239 (rd_o k2233 (rd_a k2230 (rd_a k2228 (rd_w k2177 (rd_w k2170 (rd_w k2163 (rd_w k2157 z1824 rfl) rfl) rfl) rfl) rfl) rfl) rfl) rfl)
                    refine ev_goto rfl rfl ?_
                    exact (EvQ.drop 3 (ih19 1 w1819 h2239 ((by decide : B 1 1 1).mono (by decide) (by decide)) b1821 hJ2239 (rd_w k2239 (rd_o k2233 (rd_a k2230 (rd_a k2228 (rd_w k2177 (rd_w k2170 (rd_w k2163 (rd_w k2157 z1824 rfl) rfl) rfl) rfl) rfl) rfl) rfl) rfl) (by have z0_ := congrArg Int32.toInt (rd_w k2239 (rd_o k2233 (rd_a k2230 (rd_a k2228 (rd_w k2177 (rd_w k2170 (rd_w k2163 (rd_w k2157 ef1829 rfl) rfl) rfl) rfl) rfl) rfl) rfl) rfl); have z1_ := congrArg Int32.toInt (rd_w k2239 (rd_s k2233) rfl); have z2_ := congrArg Int32.toInt (rd_w k2239 (rd_o k2233 (rd_a k2230 (rd_o k2228 (rd_w k2177 (rd_w k2170 (rd_w k2163 (rd_w k2157 ef1831 rfl) rfl) rfl) rfl) rfl) rfl) rfl) rfl); have z_ := w_lits; have zl_ := l_lits; omega) (by have z0_ := congrArg Int32.toInt (rd_w k2239 (rd_o k2233 (rd_a k2230 (rd_a k2228 (rd_w k2177 (rd_w k2170 (rd_w k2163 (rd_w k2157 ef1829 rfl) rfl) rfl) rfl) rfl) rfl) rfl) rfl); have z1_ := congrArg Int32.toInt (rd_w k2239 (rd_s k2233) rfl); have z2_ := congrArg Int32.toInt (rd_w k2239 (rd_o k2233 (rd_a k2230 (rd_o k2228 (rd_w k2177 (rd_w k2170 (rd_w k2163 (rd_w k2157 ef1831 rfl) rfl) rfl) rfl) rfl) rfl) rfl) rfl); have z3_ := congrArg Int32.toInt (rd_w k2239 (rd_o k2233 (rd_a k2230 (rd_o k2228 (rd_w k2177 (rd_w k2170 (rd_w k2163 (rd_w k2157 ef1832 rfl) rfl) rfl) rfl) rfl) rfl) rfl) rfl); have z_ := w_lits; have zl_ := l_lits; omega) (by have z0_ := congrArg Int32.toInt (rd_w k2239 (rd_o k2233 (rd_a k2230 (rd_a k2228 (rd_w k2177 (rd_w k2170 (rd_w k2163 (rd_w k2157 ef1829 rfl) rfl) rfl) rfl) rfl) rfl) rfl) rfl); have z1_ := congrArg Int32.toInt (rd_w k2239 (rd_s k2233) rfl); have z2_ := congrArg Int32.toInt (rd_w k2239 (rd_o k2233 (rd_a k2230 (rd_o k2228 (rd_w k2177 (rd_w k2170 (rd_w k2163 (rd_w k2157 ef1832 rfl) rfl) rfl) rfl) rfl) rfl) rfl) rfl); have z3_ := congrArg Int32.toInt (rd_w k2239 (rd_o k2233 (rd_a k2230 (rd_s k2228) rfl) rfl) rfl); have z_ := w_lits; have zl_ := l_lits; omega) (by have z0_ := congrArg Int32.toInt (rd_w k2239 (rd_o k2233 (rd_a k2230 (rd_a k2228 (rd_w k2177 (rd_w k2170 (rd_w k2163 (rd_w k2157 ef1829 rfl) rfl) rfl) rfl) rfl) rfl) rfl) rfl); have z1_ := congrArg Int32.toInt (rd_w k2239 (rd_s k2233) rfl); have z2_ := congrArg Int32.toInt (rd_w k2239 (rd_o k2233 (rd_a k2230 (rd_s k2228) rfl) rfl) rfl); have z3_ := congrArg Int32.toInt (rd_w k2239 (rd_o k2233 (rd_a k2230 (rd_o k2228 (rd_w k2177 (rd_w k2170 (rd_w k2163 (rd_w k2157 ef1834 rfl) rfl) rfl) rfl) rfl) rfl) rfl) rfl); have z_ := w_lits; have zl_ := l_lits; omega) (by have z0_ := congrArg Int32.toInt (rd_w k2239 (rd_o k2233 (rd_a k2230 (rd_a k2228 (rd_w k2177 (rd_w k2170 (rd_w k2163 (rd_w k2157 z1824 rfl) rfl) rfl) rfl) rfl) rfl) rfl) rfl); have z1_ := congrArg Int32.toInt ef2240; have z_ := w_lits; have zl_ := l_lits; omega) (by have z0_ := congrArg Int32.toInt ef2241; have z1_ := congrArg Int32.toInt ef2242; have z2_ := congrArg Int32.toInt ef2243; have z_ := w_lits; have zl_ := l_lits; omega) (mM_dec hm19 (by have z0_ := congrArg Int32.toInt (rd_w k2239 (rd_o k2233 (rd_a k2230 (rd_a k2228 (rd_w k2177 (rd_w k2170 (rd_w k2163 (rd_w k2157 z1824 rfl) rfl) rfl) rfl) rfl) rfl) rfl) rfl); have z1_ := congrArg Int32.toInt ef2240; have z2_ := congrArg Int32.toInt ef2241; have z3_ := congrArg Int32.toInt ef2242; have z4_ := congrArg Int32.toInt ef2243; have z5_ := congrArg Int32.toInt (rd_w k2239 (rd_o k2233 (rd_a k2230 (rd_a k2228 (rd_w k2177 (rd_w k2170 (rd_w k2163 (rd_w k2157 ef1829 rfl) rfl) rfl) rfl) rfl) rfl) rfl) rfl); have z6_ := congrArg Int32.toInt (rd_w k2239 (rd_s k2233) rfl); have z7_ := congrArg Int32.toInt (rd_w k2239 (rd_o k2233 (rd_a k2230 (rd_o k2228 (rd_w k2177 (rd_w k2170 (rd_w k2163 (rd_w k2157 ef1831 rfl) rfl) rfl) rfl) rfl) rfl) rfl) rfl); have z8_ := congrArg Int32.toInt (rd_w k2239 (rd_o k2233 (rd_a k2230 (rd_o k2228 (rd_w k2177 (rd_w k2170 (rd_w k2163 (rd_w k2157 ef1832 rfl) rfl) rfl) rfl) rfl) rfl) rfl) rfl); have z9_ := congrArg Int32.toInt (rd_w k2239 (rd_o k2233 (rd_a k2230 (rd_s k2228) rfl) rfl) rfl); have z10_ := congrArg Int32.toInt (rd_w k2239 (rd_o k2233 (rd_a k2230 (rd_o k2228 (rd_w k2177 (rd_w k2170 (rd_w k2163 (rd_w k2157 ef1834 rfl) rfl) rfl) rfl) rfl) rfl) rfl) rfl); have z_ := w_lits; have zl_ := l_lits; omega) (by have z0_ := congrArg Int32.toInt (rd_w k2239 (rd_o k2233 (rd_a k2230 (rd_a k2228 (rd_w k2177 (rd_w k2170 (rd_w k2163 (rd_w k2157 z1824 rfl) rfl) rfl) rfl) rfl) rfl) rfl) rfl); have z1_ := congrArg Int32.toInt ef2240; have z2_ := congrArg Int32.toInt ef2241; have z3_ := congrArg Int32.toInt ef2242; have z4_ := congrArg Int32.toInt ef2243; have z5_ := congrArg Int32.toInt (rd_w k2239 (rd_o k2233 (rd_a k2230 (rd_a k2228 (rd_w k2177 (rd_w k2170 (rd_w k2163 (rd_w k2157 ef1829 rfl) rfl) rfl) rfl) rfl) rfl) rfl) rfl); have z6_ := congrArg Int32.toInt (rd_w k2239 (rd_s k2233) rfl); have z7_ := congrArg Int32.toInt (rd_w k2239 (rd_o k2233 (rd_a k2230 (rd_o k2228 (rd_w k2177 (rd_w k2170 (rd_w k2163 (rd_w k2157 ef1831 rfl) rfl) rfl) rfl) rfl) rfl) rfl) rfl); have z8_ := congrArg Int32.toInt (rd_w k2239 (rd_o k2233 (rd_a k2230 (rd_o k2228 (rd_w k2177 (rd_w k2170 (rd_w k2163 (rd_w k2157 ef1832 rfl) rfl) rfl) rfl) rfl) rfl) rfl) rfl); have z9_ := congrArg Int32.toInt (rd_w k2239 (rd_o k2233 (rd_a k2230 (rd_s k2228) rfl) rfl) rfl); have z10_ := congrArg Int32.toInt (rd_w k2239 (rd_o k2233 (rd_a k2230 (rd_o k2228 (rd_w k2177 (rd_w k2170 (rd_w k2163 (rd_w k2157 ef1834 rfl) rfl) rfl) rfl) rfl) rfl) rfl) rfl); have z_ := w_lits; have zl_ := l_lits; omega) (by have z0_ := congrArg Int32.toInt (rd_w k2239 (rd_o k2233 (rd_a k2230 (rd_a k2228 (rd_w k2177 (rd_w k2170 (rd_w k2163 (rd_w k2157 z1824 rfl) rfl) rfl) rfl) rfl) rfl) rfl) rfl); have z1_ := congrArg Int32.toInt ef2240; have z2_ := congrArg Int32.toInt ef2241; have z3_ := congrArg Int32.toInt ef2242; have z4_ := congrArg Int32.toInt ef2243; have z5_ := congrArg Int32.toInt (rd_w k2239 (rd_o k2233 (rd_a k2230 (rd_a k2228 (rd_w k2177 (rd_w k2170 (rd_w k2163 (rd_w k2157 ef1829 rfl) rfl) rfl) rfl) rfl) rfl) rfl) rfl); have z6_ := congrArg Int32.toInt (rd_w k2239 (rd_s k2233) rfl); have z7_ := congrArg Int32.toInt (rd_w k2239 (rd_o k2233 (rd_a k2230 (rd_o k2228 (rd_w k2177 (rd_w k2170 (rd_w k2163 (rd_w k2157 ef1831 rfl) rfl) rfl) rfl) rfl) rfl) rfl) rfl); have z8_ := congrArg Int32.toInt (rd_w k2239 (rd_o k2233 (rd_a k2230 (rd_o k2228 (rd_w k2177 (rd_w k2170 (rd_w k2163 (rd_w k2157 ef1832 rfl) rfl) rfl) rfl) rfl) rfl) rfl) rfl); have z9_ := congrArg Int32.toInt (rd_w k2239 (rd_o k2233 (rd_a k2230 (rd_s k2228) rfl) rfl) rfl); have z10_ := congrArg Int32.toInt (rd_w k2239 (rd_o k2233 (rd_a k2230 (rd_o k2228 (rd_w k2177 (rd_w k2170 (rd_w k2163 (rd_w k2157 ef1834 rfl) rfl) rfl) rfl) rfl) rfl) rfl) rfl); have z_ := w_lits; have zl_ := l_lits; omega))))
                  · refine ev_aload_n rfl rfl rfl ?_
                    refine ev_getV (v := f1829) rfl rfl fl_X10_234 rfl rfl rfl (rd_w k2177 (rd_w k2170 (rd_w k2163 (rd_w k2157 ef1829 rfl) rfl) rfl) rfl) ?_
                    refine ev_iasK (j := 3) (n := 5) (l := 0) (u := 60) hJ2177 (by decide : B 3 3 3) (by decide) (by decide) (by decide) rfl bf1829 (by decide) (by decide) rfl rfl rfl rfl rfl (fun h2245 hJ2245 k2245 => ?_)
                    refine ev_aload_n rfl rfl rfl ?_
                    refine ev_getR (y := 77) rfl rfl fl_X10_63 rfl rfl rfl rfl ?_
                    refine ev_aload_n rfl rfl rfl ?_
                    refine ev_getV (v := 3) rfl rfl fl_X10_241 rfl rfl rfl (rd_a k2245 (rd_w k2177 (rd_w k2170 (rd_w k2163 (rd_w k2157 ef1830 rfl) rfl) rfl) rfl) rfl) ?_
                    refine ev_iload_n rfl rfl rfl ?_
                    have b2246 : B f1827 0 20 := ⟨(by have z0_ := congrArg Int32.toInt (rd_a k2245 (rd_w k2177 (rd_w k2170 (rd_w k2163 (rd_w k2157 z1824 rfl) rfl) rfl) rfl) rfl); have z1_ := congrArg Int32.toInt (rd_a k2245 (rd_w k2177 (rd_w k2170 ef2164 rfl) rfl) rfl); have z2_ := congrArg Int32.toInt (rd_a k2245 ef2178 rfl); have z3_ := congrArg Int32.toInt (rd_a k2245 (rd_w k2177 (rd_w k2170 ef2166 rfl) rfl) rfl); have z4_ := congrArg Int32.toInt (rd_a k2245 (rd_w k2177 (rd_w k2170 ef2167 rfl) rfl) rfl); have z5_ := congrArg Int32.toInt (rd_a k2245 (rd_w k2177 (rd_w k2170 (rd_w k2163 (rd_w k2157 ef1829 rfl) rfl) rfl) rfl) rfl); have z6_ := congrArg Int32.toInt (rd_a k2245 (rd_w k2177 (rd_w k2170 (rd_w k2163 (rd_w k2157 ef1830 rfl) rfl) rfl) rfl) rfl); have z7_ := congrArg Int32.toInt (rd_o k2245 (rd_w k2177 (rd_w k2170 (rd_w k2163 (rd_w k2157 ef1831 rfl) rfl) rfl) rfl) rfl); have z8_ := congrArg Int32.toInt (rd_o k2245 (rd_w k2177 (rd_w k2170 (rd_w k2163 (rd_w k2157 ef1832 rfl) rfl) rfl) rfl) rfl); have z9_ := congrArg Int32.toInt (rd_o k2245 (rd_w k2177 (rd_w k2170 (rd_w k2163 (rd_w k2157 ef1833 rfl) rfl) rfl) rfl) rfl); have z10_ := congrArg Int32.toInt (rd_s k2245); have z_ := w_lits; have zl_ := l_lits; omega), (by have z0_ := congrArg Int32.toInt (rd_a k2245 (rd_w k2177 (rd_w k2170 (rd_w k2163 (rd_w k2157 z1824 rfl) rfl) rfl) rfl) rfl); have z1_ := congrArg Int32.toInt (rd_a k2245 (rd_w k2177 (rd_w k2170 ef2164 rfl) rfl) rfl); have z2_ := congrArg Int32.toInt (rd_a k2245 ef2178 rfl); have z3_ := congrArg Int32.toInt (rd_a k2245 (rd_w k2177 (rd_w k2170 ef2166 rfl) rfl) rfl); have z4_ := congrArg Int32.toInt (rd_a k2245 (rd_w k2177 (rd_w k2170 ef2167 rfl) rfl) rfl); have z5_ := congrArg Int32.toInt (rd_a k2245 (rd_w k2177 (rd_w k2170 (rd_w k2163 (rd_w k2157 ef1829 rfl) rfl) rfl) rfl) rfl); have z6_ := congrArg Int32.toInt (rd_a k2245 (rd_w k2177 (rd_w k2170 (rd_w k2163 (rd_w k2157 ef1830 rfl) rfl) rfl) rfl) rfl); have z7_ := congrArg Int32.toInt (rd_o k2245 (rd_w k2177 (rd_w k2170 (rd_w k2163 (rd_w k2157 ef1831 rfl) rfl) rfl) rfl) rfl); have z8_ := congrArg Int32.toInt (rd_o k2245 (rd_w k2177 (rd_w k2170 (rd_w k2163 (rd_w k2157 ef1832 rfl) rfl) rfl) rfl) rfl); have z9_ := congrArg Int32.toInt (rd_o k2245 (rd_w k2177 (rd_w k2170 (rd_w k2163 (rd_w k2157 ef1833 rfl) rfl) rfl) rfl) rfl); have z10_ := congrArg Int32.toInt (rd_s k2245); have z_ := w_lits; have zl_ := l_lits; omega)⟩
                    refine ev_iasW (n := 5) (l := 0) (u := 20) hJ2245 (by decide : B 3 3 3) (by decide) (by decide) (fun _ => rfl) b2246 (by decide) (by decide) (fun _ => rfl) rfl rfl rfl rfl (fun h2247 hJ2247 k2247 => ?_)
                    refine ev_aload_n rfl rfl rfl ?_
                    refine ev_dup rfl rfl rfl ?_
                    refine ev_getV (v := 3) rfl rfl fl_X10_241 rfl rfl rfl (rd_a k2247 (rd_a k2245 (rd_w k2177 (rd_w k2170 (rd_w k2163 (rd_w k2157 ef1830 rfl) rfl) rfl) rfl) rfl) rfl) ?_
                    refine ev_iconst (v := 1) rfl rfl (by decide) ?_
                    refine ev_iaddB (l := 4) (u := 4) rfl rfl (by decide : B 3 3 3) (by decide : B 1 1 1) (by decide) (by decide) (by decide) (by decide) (fun v2248 b2248 e2248 g2248 => ?_)
                    have e2248x := e2248; rw [show (3 : Int32).toInt = 3 from by decide] at e2248x
                    have e2248xx := e2248x; rw [show (1 : Int32).toInt = 1 from by decide] at e2248xx
                    have b2249 : B v2248 0 4 := ⟨(by have z0_ := congrArg Int32.toInt (rd_a k2247 (rd_a k2245 (rd_w k2177 (rd_w k2170 (rd_w k2163 (rd_w k2157 z1824 rfl) rfl) rfl) rfl) rfl) rfl); have z1_ := congrArg Int32.toInt (rd_a k2247 (rd_a k2245 (rd_w k2177 (rd_w k2170 ef2164 rfl) rfl) rfl) rfl); have z2_ := congrArg Int32.toInt (rd_a k2247 (rd_a k2245 ef2178 rfl) rfl); have z3_ := congrArg Int32.toInt (rd_a k2247 (rd_a k2245 (rd_w k2177 (rd_w k2170 ef2166 rfl) rfl) rfl) rfl); have z4_ := congrArg Int32.toInt (rd_a k2247 (rd_a k2245 (rd_w k2177 (rd_w k2170 ef2167 rfl) rfl) rfl) rfl); have z5_ := congrArg Int32.toInt (rd_a k2247 (rd_a k2245 (rd_w k2177 (rd_w k2170 (rd_w k2163 (rd_w k2157 ef1829 rfl) rfl) rfl) rfl) rfl) rfl); have z6_ := congrArg Int32.toInt (rd_a k2247 (rd_a k2245 (rd_w k2177 (rd_w k2170 (rd_w k2163 (rd_w k2157 ef1830 rfl) rfl) rfl) rfl) rfl) rfl); have z7_ := congrArg Int32.toInt (rd_a k2247 (rd_o k2245 (rd_w k2177 (rd_w k2170 (rd_w k2163 (rd_w k2157 ef1831 rfl) rfl) rfl) rfl) rfl) rfl); have z8_ := congrArg Int32.toInt (rd_a k2247 (rd_o k2245 (rd_w k2177 (rd_w k2170 (rd_w k2163 (rd_w k2157 ef1832 rfl) rfl) rfl) rfl) rfl) rfl); have z9_ := congrArg Int32.toInt (rd_a k2247 (rd_o k2245 (rd_w k2177 (rd_w k2170 (rd_w k2163 (rd_w k2157 ef1833 rfl) rfl) rfl) rfl) rfl) rfl); have z10_ := congrArg Int32.toInt (rd_a k2247 (rd_s k2245) rfl); have z_ := w_lits; have zl_ := l_lits; omega), (by have z0_ := congrArg Int32.toInt (rd_a k2247 (rd_a k2245 (rd_w k2177 (rd_w k2170 (rd_w k2163 (rd_w k2157 z1824 rfl) rfl) rfl) rfl) rfl) rfl); have z1_ := congrArg Int32.toInt (rd_a k2247 (rd_a k2245 (rd_w k2177 (rd_w k2170 ef2164 rfl) rfl) rfl) rfl); have z2_ := congrArg Int32.toInt (rd_a k2247 (rd_a k2245 ef2178 rfl) rfl); have z3_ := congrArg Int32.toInt (rd_a k2247 (rd_a k2245 (rd_w k2177 (rd_w k2170 ef2166 rfl) rfl) rfl) rfl); have z4_ := congrArg Int32.toInt (rd_a k2247 (rd_a k2245 (rd_w k2177 (rd_w k2170 ef2167 rfl) rfl) rfl) rfl); have z5_ := congrArg Int32.toInt (rd_a k2247 (rd_a k2245 (rd_w k2177 (rd_w k2170 (rd_w k2163 (rd_w k2157 ef1829 rfl) rfl) rfl) rfl) rfl) rfl); have z6_ := congrArg Int32.toInt (rd_a k2247 (rd_a k2245 (rd_w k2177 (rd_w k2170 (rd_w k2163 (rd_w k2157 ef1830 rfl) rfl) rfl) rfl) rfl) rfl); have z7_ := congrArg Int32.toInt (rd_a k2247 (rd_o k2245 (rd_w k2177 (rd_w k2170 (rd_w k2163 (rd_w k2157 ef1831 rfl) rfl) rfl) rfl) rfl) rfl); have z8_ := congrArg Int32.toInt (rd_a k2247 (rd_o k2245 (rd_w k2177 (rd_w k2170 (rd_w k2163 (rd_w k2157 ef1832 rfl) rfl) rfl) rfl) rfl) rfl); have z9_ := congrArg Int32.toInt (rd_a k2247 (rd_o k2245 (rd_w k2177 (rd_w k2170 (rd_w k2163 (rd_w k2157 ef1833 rfl) rfl) rfl) rfl) rfl) rfl); have z10_ := congrArg Int32.toInt (rd_a k2247 (rd_s k2245) rfl); have z_ := w_lits; have zl_ := l_lits; omega)⟩
                    refine ev_putW (l := 0) (u := 4) hJ2247 rfl b2249 (by decide) (by decide) rfl rfl rfl fl_X10_241 rfl rfl rfl rfl rfl (fun h2250 hJ2250 k2250 => ?_)
                    refine ev_iconst (v := 1) rfl rfl (by decide) ?_
                    refine ev_istore_n rfl rfl rfl rfl ?_
                    dsimp only [List.set]
                    refine ev_aload_n rfl rfl rfl ?_
                    have z2251 := congrArg Int32.toInt (rd_o k2250 (rd_a k2247 (rd_a k2245 (rd_w k2177 (rd_w k2170 (rd_w k2163 (rd_w k2157 z1824 rfl) rfl) rfl) rfl) rfl) rfl) rfl)
                    have z2252 := congrArg Int32.toInt (rd_o k2250 (rd_a k2247 (rd_a k2245 (rd_w k2177 (rd_w k2170 ef2164 rfl) rfl) rfl) rfl) rfl)
                    have z2253 := congrArg Int32.toInt (rd_o k2250 (rd_a k2247 (rd_a k2245 ef2178 rfl) rfl) rfl)
                    have z2254 := congrArg Int32.toInt (rd_o k2250 (rd_a k2247 (rd_a k2245 (rd_w k2177 (rd_w k2170 ef2166 rfl) rfl) rfl) rfl) rfl)
                    have z2255 := congrArg Int32.toInt (rd_o k2250 (rd_a k2247 (rd_a k2245 (rd_w k2177 (rd_w k2170 ef2167 rfl) rfl) rfl) rfl) rfl)
                    refine ev_V0K hJ2250 rfl rfl rfl lk_X10_251 vt_X10_next rfl rfl rfl rfl rfl (w_X10_next_63 L b h2250 hJ2250.1 (by have z0_ := congrArg Int32.toInt (rd_o k2250 (rd_a k2247 (rd_a k2245 (rd_w k2177 (rd_w k2170 (rd_w k2163 (rd_w k2157 z1824 rfl) rfl) rfl) rfl) rfl) rfl) rfl); have z1_ := congrArg Int32.toInt (rd_o k2250 (rd_a k2247 (rd_a k2245 (rd_w k2177 (rd_w k2170 ef2164 rfl) rfl) rfl) rfl) rfl); have z_ := w_lits; have zl_ := l_lits; omega)) (fun h2256 hJ2256 k2256 m2256 => ?_)
                    obtain ⟨m2256_0, m2256_1, m2256_2, m2256_3, m2256_4⟩ := m2256
                    obtain ⟨f2257, ef2257⟩ : ∃ f_, h2256 63 17 = f_ := ⟨_, rfl⟩
                    have bf2257 : B f2257 0 160 := by have z_ := hJ2256.1 63 17; rw [ef2257] at z_; exact z_
                    have zf2257 := congrArg Int32.toInt ef2257
                    obtain ⟨f2258, ef2258⟩ : ∃ f_, h2256 63 21 = f_ := ⟨_, rfl⟩
                    have bf2258 : B f2258 0 6 := by have z_ := hJ2256.1 63 21; rw [ef2258] at z_; exact z_
                    have zf2258 := congrArg Int32.toInt ef2258
                    obtain ⟨f2259, ef2259⟩ : ∃ f_, h2256 63 20 = f_ := ⟨_, rfl⟩
                    have zf2259 := congrArg Int32.toInt ef2259
                    obtain ⟨f2260, ef2260⟩ : ∃ f_, h2256 63 19 = f_ := ⟨_, rfl⟩
                    have bf2260 : B f2260 0 3 := by have z_ := hJ2256.1 63 19; rw [ef2260] at z_; exact z_
                    have zf2260 := congrArg Int32.toInt ef2260
                    have z2261 := congrArg Int32.toInt (rd_w k2256 (rd_o k2250 (rd_a k2247 (rd_a k2245 (rd_w k2177 (rd_w k2170 (rd_w k2163 (rd_w k2157 z1824 rfl) rfl) rfl) rfl) rfl) rfl) rfl) rfl)
                    refine ev_goto rfl rfl ?_
                    exact (EvQ.drop 3 (ih19 1 w1819 h2256 ((by decide : B 1 1 1).mono (by decide) (by decide)) b1821 hJ2256 (rd_w k2256 (rd_o k2250 (rd_a k2247 (rd_a k2245 (rd_w k2177 (rd_w k2170 (rd_w k2163 (rd_w k2157 z1824 rfl) rfl) rfl) rfl) rfl) rfl) rfl) rfl) (by have z0_ := congrArg Int32.toInt (rd_w k2256 (rd_o k2250 (rd_a k2247 (rd_a k2245 (rd_w k2177 (rd_w k2170 (rd_w k2163 (rd_w k2157 ef1829 rfl) rfl) rfl) rfl) rfl) rfl) rfl) rfl); have z1_ := congrArg Int32.toInt (rd_w k2256 (rd_s k2250) rfl); have z2_ := congrArg Int32.toInt (rd_w k2256 (rd_o k2250 (rd_a k2247 (rd_o k2245 (rd_w k2177 (rd_w k2170 (rd_w k2163 (rd_w k2157 ef1831 rfl) rfl) rfl) rfl) rfl) rfl) rfl) rfl); have z_ := w_lits; have zl_ := l_lits; omega) (by have z0_ := congrArg Int32.toInt (rd_w k2256 (rd_o k2250 (rd_a k2247 (rd_a k2245 (rd_w k2177 (rd_w k2170 (rd_w k2163 (rd_w k2157 ef1829 rfl) rfl) rfl) rfl) rfl) rfl) rfl) rfl); have z1_ := congrArg Int32.toInt (rd_w k2256 (rd_s k2250) rfl); have z2_ := congrArg Int32.toInt (rd_w k2256 (rd_o k2250 (rd_a k2247 (rd_o k2245 (rd_w k2177 (rd_w k2170 (rd_w k2163 (rd_w k2157 ef1831 rfl) rfl) rfl) rfl) rfl) rfl) rfl) rfl); have z3_ := congrArg Int32.toInt (rd_w k2256 (rd_o k2250 (rd_a k2247 (rd_o k2245 (rd_w k2177 (rd_w k2170 (rd_w k2163 (rd_w k2157 ef1832 rfl) rfl) rfl) rfl) rfl) rfl) rfl) rfl); have z_ := w_lits; have zl_ := l_lits; omega) (by have z0_ := congrArg Int32.toInt (rd_w k2256 (rd_o k2250 (rd_a k2247 (rd_a k2245 (rd_w k2177 (rd_w k2170 (rd_w k2163 (rd_w k2157 ef1829 rfl) rfl) rfl) rfl) rfl) rfl) rfl) rfl); have z1_ := congrArg Int32.toInt (rd_w k2256 (rd_s k2250) rfl); have z2_ := congrArg Int32.toInt (rd_w k2256 (rd_o k2250 (rd_a k2247 (rd_o k2245 (rd_w k2177 (rd_w k2170 (rd_w k2163 (rd_w k2157 ef1832 rfl) rfl) rfl) rfl) rfl) rfl) rfl) rfl); have z3_ := congrArg Int32.toInt (rd_w k2256 (rd_o k2250 (rd_a k2247 (rd_o k2245 (rd_w k2177 (rd_w k2170 (rd_w k2163 (rd_w k2157 ef1833 rfl) rfl) rfl) rfl) rfl) rfl) rfl) rfl); have z_ := w_lits; have zl_ := l_lits; omega) (by have z0_ := congrArg Int32.toInt (rd_w k2256 (rd_o k2250 (rd_a k2247 (rd_a k2245 (rd_w k2177 (rd_w k2170 (rd_w k2163 (rd_w k2157 ef1829 rfl) rfl) rfl) rfl) rfl) rfl) rfl) rfl); have z1_ := congrArg Int32.toInt (rd_w k2256 (rd_s k2250) rfl); have z2_ := congrArg Int32.toInt (rd_w k2256 (rd_o k2250 (rd_a k2247 (rd_o k2245 (rd_w k2177 (rd_w k2170 (rd_w k2163 (rd_w k2157 ef1833 rfl) rfl) rfl) rfl) rfl) rfl) rfl) rfl); have z3_ := congrArg Int32.toInt (rd_w k2256 (rd_o k2250 (rd_a k2247 (rd_s k2245) rfl) rfl) rfl); have z_ := w_lits; have zl_ := l_lits; omega) (by have z0_ := congrArg Int32.toInt (rd_w k2256 (rd_o k2250 (rd_a k2247 (rd_a k2245 (rd_w k2177 (rd_w k2170 (rd_w k2163 (rd_w k2157 z1824 rfl) rfl) rfl) rfl) rfl) rfl) rfl) rfl); have z1_ := congrArg Int32.toInt ef2257; have z_ := w_lits; have zl_ := l_lits; omega) (by have z0_ := congrArg Int32.toInt ef2258; have z1_ := congrArg Int32.toInt ef2259; have z2_ := congrArg Int32.toInt ef2260; have z_ := w_lits; have zl_ := l_lits; omega) (mM_dec hm19 (by have z0_ := congrArg Int32.toInt (rd_w k2256 (rd_o k2250 (rd_a k2247 (rd_a k2245 (rd_w k2177 (rd_w k2170 (rd_w k2163 (rd_w k2157 z1824 rfl) rfl) rfl) rfl) rfl) rfl) rfl) rfl); have z1_ := congrArg Int32.toInt ef2257; have z2_ := congrArg Int32.toInt ef2258; have z3_ := congrArg Int32.toInt ef2259; have z4_ := congrArg Int32.toInt ef2260; have z5_ := congrArg Int32.toInt (rd_w k2256 (rd_o k2250 (rd_a k2247 (rd_a k2245 (rd_w k2177 (rd_w k2170 (rd_w k2163 (rd_w k2157 ef1829 rfl) rfl) rfl) rfl) rfl) rfl) rfl) rfl); have z6_ := congrArg Int32.toInt (rd_w k2256 (rd_s k2250) rfl); have z7_ := congrArg Int32.toInt (rd_w k2256 (rd_o k2250 (rd_a k2247 (rd_o k2245 (rd_w k2177 (rd_w k2170 (rd_w k2163 (rd_w k2157 ef1831 rfl) rfl) rfl) rfl) rfl) rfl) rfl) rfl); have z8_ := congrArg Int32.toInt (rd_w k2256 (rd_o k2250 (rd_a k2247 (rd_o k2245 (rd_w k2177 (rd_w k2170 (rd_w k2163 (rd_w k2157 ef1832 rfl) rfl) rfl) rfl) rfl) rfl) rfl) rfl); have z9_ := congrArg Int32.toInt (rd_w k2256 (rd_o k2250 (rd_a k2247 (rd_o k2245 (rd_w k2177 (rd_w k2170 (rd_w k2163 (rd_w k2157 ef1833 rfl) rfl) rfl) rfl) rfl) rfl) rfl) rfl); have z10_ := congrArg Int32.toInt (rd_w k2256 (rd_o k2250 (rd_a k2247 (rd_s k2245) rfl) rfl) rfl); have z_ := w_lits; have zl_ := l_lits; omega) (by have z0_ := congrArg Int32.toInt (rd_w k2256 (rd_o k2250 (rd_a k2247 (rd_a k2245 (rd_w k2177 (rd_w k2170 (rd_w k2163 (rd_w k2157 z1824 rfl) rfl) rfl) rfl) rfl) rfl) rfl) rfl); have z1_ := congrArg Int32.toInt ef2257; have z2_ := congrArg Int32.toInt ef2258; have z3_ := congrArg Int32.toInt ef2259; have z4_ := congrArg Int32.toInt ef2260; have z5_ := congrArg Int32.toInt (rd_w k2256 (rd_o k2250 (rd_a k2247 (rd_a k2245 (rd_w k2177 (rd_w k2170 (rd_w k2163 (rd_w k2157 ef1829 rfl) rfl) rfl) rfl) rfl) rfl) rfl) rfl); have z6_ := congrArg Int32.toInt (rd_w k2256 (rd_s k2250) rfl); have z7_ := congrArg Int32.toInt (rd_w k2256 (rd_o k2250 (rd_a k2247 (rd_o k2245 (rd_w k2177 (rd_w k2170 (rd_w k2163 (rd_w k2157 ef1831 rfl) rfl) rfl) rfl) rfl) rfl) rfl) rfl); have z8_ := congrArg Int32.toInt (rd_w k2256 (rd_o k2250 (rd_a k2247 (rd_o k2245 (rd_w k2177 (rd_w k2170 (rd_w k2163 (rd_w k2157 ef1832 rfl) rfl) rfl) rfl) rfl) rfl) rfl) rfl); have z9_ := congrArg Int32.toInt (rd_w k2256 (rd_o k2250 (rd_a k2247 (rd_o k2245 (rd_w k2177 (rd_w k2170 (rd_w k2163 (rd_w k2157 ef1833 rfl) rfl) rfl) rfl) rfl) rfl) rfl) rfl); have z10_ := congrArg Int32.toInt (rd_w k2256 (rd_o k2250 (rd_a k2247 (rd_s k2245) rfl) rfl) rfl); have z_ := w_lits; have zl_ := l_lits; omega) (by have z0_ := congrArg Int32.toInt (rd_w k2256 (rd_o k2250 (rd_a k2247 (rd_a k2245 (rd_w k2177 (rd_w k2170 (rd_w k2163 (rd_w k2157 z1824 rfl) rfl) rfl) rfl) rfl) rfl) rfl) rfl); have z1_ := congrArg Int32.toInt ef2257; have z2_ := congrArg Int32.toInt ef2258; have z3_ := congrArg Int32.toInt ef2259; have z4_ := congrArg Int32.toInt ef2260; have z5_ := congrArg Int32.toInt (rd_w k2256 (rd_o k2250 (rd_a k2247 (rd_a k2245 (rd_w k2177 (rd_w k2170 (rd_w k2163 (rd_w k2157 ef1829 rfl) rfl) rfl) rfl) rfl) rfl) rfl) rfl); have z6_ := congrArg Int32.toInt (rd_w k2256 (rd_s k2250) rfl); have z7_ := congrArg Int32.toInt (rd_w k2256 (rd_o k2250 (rd_a k2247 (rd_o k2245 (rd_w k2177 (rd_w k2170 (rd_w k2163 (rd_w k2157 ef1831 rfl) rfl) rfl) rfl) rfl) rfl) rfl) rfl); have z8_ := congrArg Int32.toInt (rd_w k2256 (rd_o k2250 (rd_a k2247 (rd_o k2245 (rd_w k2177 (rd_w k2170 (rd_w k2163 (rd_w k2157 ef1832 rfl) rfl) rfl) rfl) rfl) rfl) rfl) rfl); have z9_ := congrArg Int32.toInt (rd_w k2256 (rd_o k2250 (rd_a k2247 (rd_o k2245 (rd_w k2177 (rd_w k2170 (rd_w k2163 (rd_w k2157 ef1833 rfl) rfl) rfl) rfl) rfl) rfl) rfl) rfl); have z10_ := congrArg Int32.toInt (rd_w k2256 (rd_o k2250 (rd_a k2247 (rd_s k2245) rfl) rfl) rfl); have z_ := w_lits; have zl_ := l_lits; omega))))
                  · refine ev_aload_n rfl rfl rfl ?_
                    refine ev_getV (v := f1829) rfl rfl fl_X10_234 rfl rfl rfl (rd_w k2177 (rd_w k2170 (rd_w k2163 (rd_w k2157 ef1829 rfl) rfl) rfl) rfl) ?_
                    refine ev_iasW (n := 5) (l := 0) (u := 60) hJ2177 (by decide : B 4 4 4) (by decide) (by decide) (fun _ => rfl) bf1829 (by decide) (by decide) (fun _ => rfl) rfl rfl rfl rfl (fun h2262 hJ2262 k2262 => ?_)
                    obtain ⟨f2263, ef2263⟩ : ∃ f_, h2262 76 0 = f_ := ⟨_, rfl⟩
                    have bf2263 : B f2263 0 60 := by have z_ := hJ2262.1 76 0; rw [ef2263] at z_; exact z_
                    have zf2263 := congrArg Int32.toInt ef2263
                    obtain ⟨f2264, ef2264⟩ : ∃ f_, h2262 76 1 = f_ := ⟨_, rfl⟩
                    have bf2264 : B f2264 0 60 := by have z_ := hJ2262.1 76 1; rw [ef2264] at z_; exact z_
                    have zf2264 := congrArg Int32.toInt ef2264
                    obtain ⟨f2265, ef2265⟩ : ∃ f_, h2262 76 2 = f_ := ⟨_, rfl⟩
                    have bf2265 : B f2265 0 60 := by have z_ := hJ2262.1 76 2; rw [ef2265] at z_; exact z_
                    have zf2265 := congrArg Int32.toInt ef2265
                    obtain ⟨f2266, ef2266⟩ : ∃ f_, h2262 76 3 = f_ := ⟨_, rfl⟩
                    have bf2266 : B f2266 0 60 := by have z_ := hJ2262.1 76 3; rw [ef2266] at z_; exact z_
                    have zf2266 := congrArg Int32.toInt ef2266
                    refine ev_aload_n rfl rfl rfl ?_
                    refine ev_getR (y := 77) rfl rfl fl_X10_63 rfl rfl rfl rfl ?_
                    refine ev_aload_n rfl rfl rfl ?_
                    refine ev_getV (v := 4) rfl rfl fl_X10_241 rfl rfl rfl (rd_a k2262 (rd_w k2177 (rd_w k2170 (rd_w k2163 (rd_w k2157 ef1830 rfl) rfl) rfl) rfl) rfl) ?_
                    refine ev_iload_n rfl rfl rfl ?_
                    have b2267 : B f1827 0 20 := ⟨(by have z0_ := congrArg Int32.toInt (rd_a k2262 (rd_w k2177 (rd_w k2170 (rd_w k2163 (rd_w k2157 z1824 rfl) rfl) rfl) rfl) rfl); have z1_ := congrArg Int32.toInt (rd_a k2262 (rd_w k2177 (rd_w k2170 ef2164 rfl) rfl) rfl); have z2_ := congrArg Int32.toInt (rd_a k2262 ef2178 rfl); have z3_ := congrArg Int32.toInt (rd_a k2262 (rd_w k2177 (rd_w k2170 ef2166 rfl) rfl) rfl); have z4_ := congrArg Int32.toInt (rd_a k2262 (rd_w k2177 (rd_w k2170 ef2167 rfl) rfl) rfl); have z5_ := congrArg Int32.toInt (rd_a k2262 (rd_w k2177 (rd_w k2170 (rd_w k2163 (rd_w k2157 ef1829 rfl) rfl) rfl) rfl) rfl); have z6_ := congrArg Int32.toInt (rd_a k2262 (rd_w k2177 (rd_w k2170 (rd_w k2163 (rd_w k2157 ef1830 rfl) rfl) rfl) rfl) rfl); have z7_ := congrArg Int32.toInt ef2263; have z8_ := congrArg Int32.toInt ef2264; have z9_ := congrArg Int32.toInt ef2265; have z10_ := congrArg Int32.toInt ef2266; have z_ := w_lits; have zl_ := l_lits; omega), (by have z0_ := congrArg Int32.toInt (rd_a k2262 (rd_w k2177 (rd_w k2170 (rd_w k2163 (rd_w k2157 z1824 rfl) rfl) rfl) rfl) rfl); have z1_ := congrArg Int32.toInt (rd_a k2262 (rd_w k2177 (rd_w k2170 ef2164 rfl) rfl) rfl); have z2_ := congrArg Int32.toInt (rd_a k2262 ef2178 rfl); have z3_ := congrArg Int32.toInt (rd_a k2262 (rd_w k2177 (rd_w k2170 ef2166 rfl) rfl) rfl); have z4_ := congrArg Int32.toInt (rd_a k2262 (rd_w k2177 (rd_w k2170 ef2167 rfl) rfl) rfl); have z5_ := congrArg Int32.toInt (rd_a k2262 (rd_w k2177 (rd_w k2170 (rd_w k2163 (rd_w k2157 ef1829 rfl) rfl) rfl) rfl) rfl); have z6_ := congrArg Int32.toInt (rd_a k2262 (rd_w k2177 (rd_w k2170 (rd_w k2163 (rd_w k2157 ef1830 rfl) rfl) rfl) rfl) rfl); have z7_ := congrArg Int32.toInt ef2263; have z8_ := congrArg Int32.toInt ef2264; have z9_ := congrArg Int32.toInt ef2265; have z10_ := congrArg Int32.toInt ef2266; have z_ := w_lits; have zl_ := l_lits; omega)⟩
                    refine ev_iasW (n := 5) (l := 0) (u := 20) hJ2262 (by decide : B 4 4 4) (by decide) (by decide) (fun _ => rfl) b2267 (by decide) (by decide) (fun _ => rfl) rfl rfl rfl rfl (fun h2268 hJ2268 k2268 => ?_)
                    refine ev_aload_n rfl rfl rfl ?_
                    refine ev_dup rfl rfl rfl ?_
                    refine ev_getV (v := 4) rfl rfl fl_X10_241 rfl rfl rfl (rd_a k2268 (rd_a k2262 (rd_w k2177 (rd_w k2170 (rd_w k2163 (rd_w k2157 ef1830 rfl) rfl) rfl) rfl) rfl) rfl) ?_
                    refine ev_iconst (v := 1) rfl rfl (by decide) ?_
                    refine ev_iaddB (l := 5) (u := 5) rfl rfl (by decide : B 4 4 4) (by decide : B 1 1 1) (by decide) (by decide) (by decide) (by decide) (fun v2269 b2269 e2269 g2269 => ?_)
                    have e2269x := e2269; rw [show (4 : Int32).toInt = 4 from by decide] at e2269x
                    have e2269xx := e2269x; rw [show (1 : Int32).toInt = 1 from by decide] at e2269xx
                    have b2270 : B v2269 0 4 := ⟨(by have z0_ := congrArg Int32.toInt (rd_a k2268 (rd_a k2262 (rd_w k2177 (rd_w k2170 (rd_w k2163 (rd_w k2157 z1824 rfl) rfl) rfl) rfl) rfl) rfl); have z1_ := congrArg Int32.toInt (rd_a k2268 (rd_a k2262 (rd_w k2177 (rd_w k2170 ef2164 rfl) rfl) rfl) rfl); have z2_ := congrArg Int32.toInt (rd_a k2268 (rd_a k2262 ef2178 rfl) rfl); have z3_ := congrArg Int32.toInt (rd_a k2268 (rd_a k2262 (rd_w k2177 (rd_w k2170 ef2166 rfl) rfl) rfl) rfl); have z4_ := congrArg Int32.toInt (rd_a k2268 (rd_a k2262 (rd_w k2177 (rd_w k2170 ef2167 rfl) rfl) rfl) rfl); have z5_ := congrArg Int32.toInt (rd_a k2268 (rd_a k2262 (rd_w k2177 (rd_w k2170 (rd_w k2163 (rd_w k2157 ef1829 rfl) rfl) rfl) rfl) rfl) rfl); have z6_ := congrArg Int32.toInt (rd_a k2268 (rd_a k2262 (rd_w k2177 (rd_w k2170 (rd_w k2163 (rd_w k2157 ef1830 rfl) rfl) rfl) rfl) rfl) rfl); have z7_ := congrArg Int32.toInt (rd_a k2268 ef2263 rfl); have z8_ := congrArg Int32.toInt (rd_a k2268 ef2264 rfl); have z9_ := congrArg Int32.toInt (rd_a k2268 ef2265 rfl); have z10_ := congrArg Int32.toInt (rd_a k2268 ef2266 rfl); have z_ := w_lits; have zl_ := l_lits; omega), (by have z0_ := congrArg Int32.toInt (rd_a k2268 (rd_a k2262 (rd_w k2177 (rd_w k2170 (rd_w k2163 (rd_w k2157 z1824 rfl) rfl) rfl) rfl) rfl) rfl); have z1_ := congrArg Int32.toInt (rd_a k2268 (rd_a k2262 (rd_w k2177 (rd_w k2170 ef2164 rfl) rfl) rfl) rfl); have z2_ := congrArg Int32.toInt (rd_a k2268 (rd_a k2262 ef2178 rfl) rfl); have z3_ := congrArg Int32.toInt (rd_a k2268 (rd_a k2262 (rd_w k2177 (rd_w k2170 ef2166 rfl) rfl) rfl) rfl); have z4_ := congrArg Int32.toInt (rd_a k2268 (rd_a k2262 (rd_w k2177 (rd_w k2170 ef2167 rfl) rfl) rfl) rfl); have z5_ := congrArg Int32.toInt (rd_a k2268 (rd_a k2262 (rd_w k2177 (rd_w k2170 (rd_w k2163 (rd_w k2157 ef1829 rfl) rfl) rfl) rfl) rfl) rfl); have z6_ := congrArg Int32.toInt (rd_a k2268 (rd_a k2262 (rd_w k2177 (rd_w k2170 (rd_w k2163 (rd_w k2157 ef1830 rfl) rfl) rfl) rfl) rfl) rfl); have z7_ := congrArg Int32.toInt (rd_a k2268 ef2263 rfl); have z8_ := congrArg Int32.toInt (rd_a k2268 ef2264 rfl); have z9_ := congrArg Int32.toInt (rd_a k2268 ef2265 rfl); have z10_ := congrArg Int32.toInt (rd_a k2268 ef2266 rfl); have z_ := w_lits; have zl_ := l_lits; omega)⟩
                    refine ev_putW (l := 0) (u := 4) hJ2268 rfl b2270 (by decide) (by decide) rfl rfl rfl fl_X10_241 rfl rfl rfl rfl rfl (fun h2271 hJ2271 k2271 => ?_)
                    refine ev_iconst (v := 1) rfl rfl (by decide) ?_
                    refine ev_istore_n rfl rfl rfl rfl ?_
                    dsimp only [List.set]
                    refine ev_aload_n rfl rfl rfl ?_
                    have z2272 := congrArg Int32.toInt (rd_o k2271 (rd_a k2268 (rd_a k2262 (rd_w k2177 (rd_w k2170 (rd_w k2163 (rd_w k2157 z1824 rfl) rfl) rfl) rfl) rfl) rfl) rfl)
                    have z2273 := congrArg Int32.toInt (rd_o k2271 (rd_a k2268 (rd_a k2262 (rd_w k2177 (rd_w k2170 ef2164 rfl) rfl) rfl) rfl) rfl)
                    have z2274 := congrArg Int32.toInt (rd_o k2271 (rd_a k2268 (rd_a k2262 ef2178 rfl) rfl) rfl)
                    have z2275 := congrArg Int32.toInt (rd_o k2271 (rd_a k2268 (rd_a k2262 (rd_w k2177 (rd_w k2170 ef2166 rfl) rfl) rfl) rfl) rfl)
                    have z2276 := congrArg Int32.toInt (rd_o k2271 (rd_a k2268 (rd_a k2262 (rd_w k2177 (rd_w k2170 ef2167 rfl) rfl) rfl) rfl) rfl)
                    refine ev_V0K hJ2271 rfl rfl rfl lk_X10_251 vt_X10_next rfl rfl rfl rfl rfl (w_X10_next_63 L b h2271 hJ2271.1 (by have z0_ := congrArg Int32.toInt (rd_o k2271 (rd_a k2268 (rd_a k2262 (rd_w k2177 (rd_w k2170 (rd_w k2163 (rd_w k2157 z1824 rfl) rfl) rfl) rfl) rfl) rfl) rfl); have z1_ := congrArg Int32.toInt (rd_o k2271 (rd_a k2268 (rd_a k2262 (rd_w k2177 (rd_w k2170 ef2164 rfl) rfl) rfl) rfl) rfl); have z_ := w_lits; have zl_ := l_lits; omega)) (fun h2277 hJ2277 k2277 m2277 => ?_)
                    obtain ⟨m2277_0, m2277_1, m2277_2, m2277_3, m2277_4⟩ := m2277
                    obtain ⟨f2278, ef2278⟩ : ∃ f_, h2277 63 17 = f_ := ⟨_, rfl⟩
                    have bf2278 : B f2278 0 160 := by have z_ := hJ2277.1 63 17; rw [ef2278] at z_; exact z_
                    have zf2278 := congrArg Int32.toInt ef2278
                    obtain ⟨f2279, ef2279⟩ : ∃ f_, h2277 63 21 = f_ := ⟨_, rfl⟩
                    have bf2279 : B f2279 0 6 := by have z_ := hJ2277.1 63 21; rw [ef2279] at z_; exact z_
                    have zf2279 := congrArg Int32.toInt ef2279
                    obtain ⟨f2280, ef2280⟩ : ∃ f_, h2277 63 20 = f_ := ⟨_, rfl⟩
                    have zf2280 := congrArg Int32.toInt ef2280
                    obtain ⟨f2281, ef2281⟩ : ∃ f_, h2277 63 19 = f_ := ⟨_, rfl⟩
                    have bf2281 : B f2281 0 3 := by have z_ := hJ2277.1 63 19; rw [ef2281] at z_; exact z_
                    have zf2281 := congrArg Int32.toInt ef2281
                    have z2282 := congrArg Int32.toInt (rd_w k2277 (rd_o k2271 (rd_a k2268 (rd_a k2262 (rd_w k2177 (rd_w k2170 (rd_w k2163 (rd_w k2157 z1824 rfl) rfl) rfl) rfl) rfl) rfl) rfl) rfl)
                    refine ev_goto rfl rfl ?_
                    exact (EvQ.drop 3 (ih19 1 w1819 h2277 ((by decide : B 1 1 1).mono (by decide) (by decide)) b1821 hJ2277 (rd_w k2277 (rd_o k2271 (rd_a k2268 (rd_a k2262 (rd_w k2177 (rd_w k2170 (rd_w k2163 (rd_w k2157 z1824 rfl) rfl) rfl) rfl) rfl) rfl) rfl) rfl) (by have z0_ := congrArg Int32.toInt (rd_w k2277 (rd_o k2271 (rd_a k2268 (rd_a k2262 (rd_w k2177 (rd_w k2170 (rd_w k2163 (rd_w k2157 ef1829 rfl) rfl) rfl) rfl) rfl) rfl) rfl) rfl); have z1_ := congrArg Int32.toInt (rd_w k2277 (rd_s k2271) rfl); have z2_ := congrArg Int32.toInt (rd_w k2277 (rd_o k2271 (rd_a k2268 ef2263 rfl) rfl) rfl); have z_ := w_lits; have zl_ := l_lits; omega) (by have z0_ := congrArg Int32.toInt (rd_w k2277 (rd_o k2271 (rd_a k2268 (rd_a k2262 (rd_w k2177 (rd_w k2170 (rd_w k2163 (rd_w k2157 ef1829 rfl) rfl) rfl) rfl) rfl) rfl) rfl) rfl); have z1_ := congrArg Int32.toInt (rd_w k2277 (rd_s k2271) rfl); have z2_ := congrArg Int32.toInt (rd_w k2277 (rd_o k2271 (rd_a k2268 ef2263 rfl) rfl) rfl); have z3_ := congrArg Int32.toInt (rd_w k2277 (rd_o k2271 (rd_a k2268 ef2264 rfl) rfl) rfl); have z_ := w_lits; have zl_ := l_lits; omega) (by have z0_ := congrArg Int32.toInt (rd_w k2277 (rd_o k2271 (rd_a k2268 (rd_a k2262 (rd_w k2177 (rd_w k2170 (rd_w k2163 (rd_w k2157 ef1829 rfl) rfl) rfl) rfl) rfl) rfl) rfl) rfl); have z1_ := congrArg Int32.toInt (rd_w k2277 (rd_s k2271) rfl); have z2_ := congrArg Int32.toInt (rd_w k2277 (rd_o k2271 (rd_a k2268 ef2264 rfl) rfl) rfl); have z3_ := congrArg Int32.toInt (rd_w k2277 (rd_o k2271 (rd_a k2268 ef2265 rfl) rfl) rfl); have z_ := w_lits; have zl_ := l_lits; omega) (by have z0_ := congrArg Int32.toInt (rd_w k2277 (rd_o k2271 (rd_a k2268 (rd_a k2262 (rd_w k2177 (rd_w k2170 (rd_w k2163 (rd_w k2157 ef1829 rfl) rfl) rfl) rfl) rfl) rfl) rfl) rfl); have z1_ := congrArg Int32.toInt (rd_w k2277 (rd_s k2271) rfl); have z2_ := congrArg Int32.toInt (rd_w k2277 (rd_o k2271 (rd_a k2268 ef2265 rfl) rfl) rfl); have z3_ := congrArg Int32.toInt (rd_w k2277 (rd_o k2271 (rd_a k2268 ef2266 rfl) rfl) rfl); have z_ := w_lits; have zl_ := l_lits; omega) (by have z0_ := congrArg Int32.toInt (rd_w k2277 (rd_o k2271 (rd_a k2268 (rd_a k2262 (rd_w k2177 (rd_w k2170 (rd_w k2163 (rd_w k2157 z1824 rfl) rfl) rfl) rfl) rfl) rfl) rfl) rfl); have z1_ := congrArg Int32.toInt ef2278; have z_ := w_lits; have zl_ := l_lits; omega) (by have z0_ := congrArg Int32.toInt ef2279; have z1_ := congrArg Int32.toInt ef2280; have z2_ := congrArg Int32.toInt ef2281; have z_ := w_lits; have zl_ := l_lits; omega) (mM_dec hm19 (by have z0_ := congrArg Int32.toInt (rd_w k2277 (rd_o k2271 (rd_a k2268 (rd_a k2262 (rd_w k2177 (rd_w k2170 (rd_w k2163 (rd_w k2157 z1824 rfl) rfl) rfl) rfl) rfl) rfl) rfl) rfl); have z1_ := congrArg Int32.toInt ef2278; have z2_ := congrArg Int32.toInt ef2279; have z3_ := congrArg Int32.toInt ef2280; have z4_ := congrArg Int32.toInt ef2281; have z5_ := congrArg Int32.toInt (rd_w k2277 (rd_o k2271 (rd_a k2268 (rd_a k2262 (rd_w k2177 (rd_w k2170 (rd_w k2163 (rd_w k2157 ef1829 rfl) rfl) rfl) rfl) rfl) rfl) rfl) rfl); have z6_ := congrArg Int32.toInt (rd_w k2277 (rd_s k2271) rfl); have z7_ := congrArg Int32.toInt (rd_w k2277 (rd_o k2271 (rd_a k2268 ef2263 rfl) rfl) rfl); have z8_ := congrArg Int32.toInt (rd_w k2277 (rd_o k2271 (rd_a k2268 ef2264 rfl) rfl) rfl); have z9_ := congrArg Int32.toInt (rd_w k2277 (rd_o k2271 (rd_a k2268 ef2265 rfl) rfl) rfl); have z10_ := congrArg Int32.toInt (rd_w k2277 (rd_o k2271 (rd_a k2268 ef2266 rfl) rfl) rfl); have z_ := w_lits; have zl_ := l_lits; omega) (by have z0_ := congrArg Int32.toInt (rd_w k2277 (rd_o k2271 (rd_a k2268 (rd_a k2262 (rd_w k2177 (rd_w k2170 (rd_w k2163 (rd_w k2157 z1824 rfl) rfl) rfl) rfl) rfl) rfl) rfl) rfl); have z1_ := congrArg Int32.toInt ef2278; have z2_ := congrArg Int32.toInt ef2279; have z3_ := congrArg Int32.toInt ef2280; have z4_ := congrArg Int32.toInt ef2281; have z5_ := congrArg Int32.toInt (rd_w k2277 (rd_o k2271 (rd_a k2268 (rd_a k2262 (rd_w k2177 (rd_w k2170 (rd_w k2163 (rd_w k2157 ef1829 rfl) rfl) rfl) rfl) rfl) rfl) rfl) rfl); have z6_ := congrArg Int32.toInt (rd_w k2277 (rd_s k2271) rfl); have z7_ := congrArg Int32.toInt (rd_w k2277 (rd_o k2271 (rd_a k2268 ef2263 rfl) rfl) rfl); have z8_ := congrArg Int32.toInt (rd_w k2277 (rd_o k2271 (rd_a k2268 ef2264 rfl) rfl) rfl); have z9_ := congrArg Int32.toInt (rd_w k2277 (rd_o k2271 (rd_a k2268 ef2265 rfl) rfl) rfl); have z10_ := congrArg Int32.toInt (rd_w k2277 (rd_o k2271 (rd_a k2268 ef2266 rfl) rfl) rfl); have z_ := w_lits; have zl_ := l_lits; omega) (by have z0_ := congrArg Int32.toInt (rd_w k2277 (rd_o k2271 (rd_a k2268 (rd_a k2262 (rd_w k2177 (rd_w k2170 (rd_w k2163 (rd_w k2157 z1824 rfl) rfl) rfl) rfl) rfl) rfl) rfl) rfl); have z1_ := congrArg Int32.toInt ef2278; have z2_ := congrArg Int32.toInt ef2279; have z3_ := congrArg Int32.toInt ef2280; have z4_ := congrArg Int32.toInt ef2281; have z5_ := congrArg Int32.toInt (rd_w k2277 (rd_o k2271 (rd_a k2268 (rd_a k2262 (rd_w k2177 (rd_w k2170 (rd_w k2163 (rd_w k2157 ef1829 rfl) rfl) rfl) rfl) rfl) rfl) rfl) rfl); have z6_ := congrArg Int32.toInt (rd_w k2277 (rd_s k2271) rfl); have z7_ := congrArg Int32.toInt (rd_w k2277 (rd_o k2271 (rd_a k2268 ef2263 rfl) rfl) rfl); have z8_ := congrArg Int32.toInt (rd_w k2277 (rd_o k2271 (rd_a k2268 ef2264 rfl) rfl) rfl); have z9_ := congrArg Int32.toInt (rd_w k2277 (rd_o k2271 (rd_a k2268 ef2265 rfl) rfl) rfl); have z10_ := congrArg Int32.toInt (rd_w k2277 (rd_o k2271 (rd_a k2268 ef2266 rfl) rfl) rfl); have z_ := w_lits; have zl_ := l_lits; omega))))
              · have b2175 : B f1830 0 3 := R_ltX bf1830 (by decide : B 4 4 4) (Int32.not_le.mp c2172) (by decide)
                have z2176 := w_lt (Int32.not_le.mp c2172)
                rw [show (4 : Int32).toInt = 4 from by decide] at z2176
                refine ev_iconst (v := 1) rfl rfl (by decide) ?_
                refine ev_goto rfl rfl ?_
                refine ev_iconst (v := 5) rfl rfl (by decide) ?_
                refine ev_V2K hJ2170 rfl rfl rfl lk_X10_230 vt_X10_wants rfl rfl rfl rfl rfl (w_X10_wants_63 L b h2170 hJ2170.1 1 ((by decide : B 1 1 1).mono (by decide) (by decide)) 5 ((by decide : B 5 5 5).mono (by decide) (by decide))) (fun h2283 hJ2283 k2283 m2283 => ?_)
                obtain ⟨f2284, ef2284⟩ : ∃ f_, h2283 63 21 = f_ := ⟨_, rfl⟩
                have bf2284 : B f2284 0 6 := by have z_ := hJ2283.1 63 21; rw [ef2284] at z_; exact z_
                have zf2284 := congrArg Int32.toInt ef2284
                refine ev_aload_n rfl rfl rfl ?_
                refine ev_getV (v := f2284) rfl rfl fl_X10_191 rfl rfl rfl ef2284 ?_
                refine ev_if_ne rfl rfl (fun c2285 => ?_) (fun c2285 => ?_)
                · have b2286 : B f2284 1 6 := R_neL bf2284 (by decide : B 0 0 0) c2285 (by decide)
                  have z2287 := w_ne c2285
                  rw [show (0 : Int32).toInt = 0 from by decide] at z2287
                  refine ev_aload_n rfl rfl rfl ?_
                  have z2290 := congrArg Int32.toInt (rd_w k2283 (rd_w k2170 (rd_w k2163 (rd_w k2157 z1824 rfl) rfl) rfl) rfl)
                  have z2291 := congrArg Int32.toInt (rd_w k2283 (rd_w k2170 ef2164 rfl) rfl)
                  have z2292 := congrArg Int32.toInt (rd_w k2283 (rd_w k2170 ef2166 rfl) rfl)
                  have z2293 := congrArg Int32.toInt (rd_w k2283 (rd_w k2170 ef2167 rfl) rfl)
                  refine ev_V0K hJ2283 rfl rfl rfl lk_X10_251 vt_X10_next rfl rfl rfl rfl rfl (w_X10_next_63 L b h2283 hJ2283.1 (by have z0_ := congrArg Int32.toInt (rd_w k2283 (rd_w k2170 (rd_w k2163 (rd_w k2157 z1824 rfl) rfl) rfl) rfl); have z1_ := congrArg Int32.toInt (rd_w k2283 (rd_w k2170 ef2164 rfl) rfl); have z_ := w_lits; have zl_ := l_lits; omega)) (fun h2294 hJ2294 k2294 m2294 => ?_)
                  obtain ⟨m2294_0, m2294_1, m2294_2, m2294_3, m2294_4⟩ := m2294
                  obtain ⟨f2295, ef2295⟩ : ∃ f_, h2294 63 17 = f_ := ⟨_, rfl⟩
                  have bf2295 : B f2295 0 160 := by have z_ := hJ2294.1 63 17; rw [ef2295] at z_; exact z_
                  have zf2295 := congrArg Int32.toInt ef2295
                  obtain ⟨f2296, ef2296⟩ : ∃ f_, h2294 63 21 = f_ := ⟨_, rfl⟩
                  have bf2296 : B f2296 0 6 := by have z_ := hJ2294.1 63 21; rw [ef2296] at z_; exact z_
                  have zf2296 := congrArg Int32.toInt ef2296
                  obtain ⟨f2297, ef2297⟩ : ∃ f_, h2294 63 20 = f_ := ⟨_, rfl⟩
                  have zf2297 := congrArg Int32.toInt ef2297
                  obtain ⟨f2298, ef2298⟩ : ∃ f_, h2294 63 19 = f_ := ⟨_, rfl⟩
                  have bf2298 : B f2298 0 3 := by have z_ := hJ2294.1 63 19; rw [ef2298] at z_; exact z_
                  have zf2298 := congrArg Int32.toInt ef2298
                  have z2299 := congrArg Int32.toInt (rd_w k2294 (rd_w k2283 (rd_w k2170 (rd_w k2163 (rd_w k2157 z1824 rfl) rfl) rfl) rfl) rfl)
                  refine ev_goto rfl rfl ?_
                  exact (EvQ.drop 3 (ih19 w1818 w1819 h2294 b1820 b1821 hJ2294 (rd_w k2294 (rd_w k2283 (rd_w k2170 (rd_w k2163 (rd_w k2157 z1824 rfl) rfl) rfl) rfl) rfl) (by have z0_ := congrArg Int32.toInt (rd_w k2294 (rd_w k2283 (rd_w k2170 (rd_w k2163 (rd_w k2157 ef1829 rfl) rfl) rfl) rfl) rfl); have z1_ := congrArg Int32.toInt (rd_w k2294 (rd_w k2283 (rd_w k2170 (rd_w k2163 (rd_w k2157 ef1830 rfl) rfl) rfl) rfl) rfl); have z2_ := congrArg Int32.toInt (rd_w k2294 (rd_w k2283 (rd_w k2170 (rd_w k2163 (rd_w k2157 ef1831 rfl) rfl) rfl) rfl) rfl); have z_ := w_lits; have zl_ := l_lits; omega) (by have z0_ := congrArg Int32.toInt (rd_w k2294 (rd_w k2283 (rd_w k2170 (rd_w k2163 (rd_w k2157 ef1829 rfl) rfl) rfl) rfl) rfl); have z1_ := congrArg Int32.toInt (rd_w k2294 (rd_w k2283 (rd_w k2170 (rd_w k2163 (rd_w k2157 ef1830 rfl) rfl) rfl) rfl) rfl); have z2_ := congrArg Int32.toInt (rd_w k2294 (rd_w k2283 (rd_w k2170 (rd_w k2163 (rd_w k2157 ef1831 rfl) rfl) rfl) rfl) rfl); have z3_ := congrArg Int32.toInt (rd_w k2294 (rd_w k2283 (rd_w k2170 (rd_w k2163 (rd_w k2157 ef1832 rfl) rfl) rfl) rfl) rfl); have z_ := w_lits; have zl_ := l_lits; omega) (by have z0_ := congrArg Int32.toInt (rd_w k2294 (rd_w k2283 (rd_w k2170 (rd_w k2163 (rd_w k2157 ef1829 rfl) rfl) rfl) rfl) rfl); have z1_ := congrArg Int32.toInt (rd_w k2294 (rd_w k2283 (rd_w k2170 (rd_w k2163 (rd_w k2157 ef1830 rfl) rfl) rfl) rfl) rfl); have z2_ := congrArg Int32.toInt (rd_w k2294 (rd_w k2283 (rd_w k2170 (rd_w k2163 (rd_w k2157 ef1832 rfl) rfl) rfl) rfl) rfl); have z3_ := congrArg Int32.toInt (rd_w k2294 (rd_w k2283 (rd_w k2170 (rd_w k2163 (rd_w k2157 ef1833 rfl) rfl) rfl) rfl) rfl); have z_ := w_lits; have zl_ := l_lits; omega) (by have z0_ := congrArg Int32.toInt (rd_w k2294 (rd_w k2283 (rd_w k2170 (rd_w k2163 (rd_w k2157 ef1829 rfl) rfl) rfl) rfl) rfl); have z1_ := congrArg Int32.toInt (rd_w k2294 (rd_w k2283 (rd_w k2170 (rd_w k2163 (rd_w k2157 ef1830 rfl) rfl) rfl) rfl) rfl); have z2_ := congrArg Int32.toInt (rd_w k2294 (rd_w k2283 (rd_w k2170 (rd_w k2163 (rd_w k2157 ef1833 rfl) rfl) rfl) rfl) rfl); have z3_ := congrArg Int32.toInt (rd_w k2294 (rd_w k2283 (rd_w k2170 (rd_w k2163 (rd_w k2157 ef1834 rfl) rfl) rfl) rfl) rfl); have z_ := w_lits; have zl_ := l_lits; omega) (by have z0_ := congrArg Int32.toInt (rd_w k2294 (rd_w k2283 (rd_w k2170 (rd_w k2163 (rd_w k2157 z1824 rfl) rfl) rfl) rfl) rfl); have z1_ := congrArg Int32.toInt ef2295; have z_ := w_lits; have zl_ := l_lits; omega) (by have z0_ := congrArg Int32.toInt ef2296; have z1_ := congrArg Int32.toInt ef2297; have z2_ := congrArg Int32.toInt ef2298; have z_ := w_lits; have zl_ := l_lits; omega) (mM_dec hm19 (by have z0_ := congrArg Int32.toInt (rd_w k2294 (rd_w k2283 (rd_w k2170 (rd_w k2163 (rd_w k2157 z1824 rfl) rfl) rfl) rfl) rfl); have z1_ := congrArg Int32.toInt ef2295; have z2_ := congrArg Int32.toInt ef2296; have z3_ := congrArg Int32.toInt ef2297; have z4_ := congrArg Int32.toInt ef2298; have z5_ := congrArg Int32.toInt (rd_w k2294 (rd_w k2283 (rd_w k2170 (rd_w k2163 (rd_w k2157 ef1829 rfl) rfl) rfl) rfl) rfl); have z6_ := congrArg Int32.toInt (rd_w k2294 (rd_w k2283 (rd_w k2170 (rd_w k2163 (rd_w k2157 ef1830 rfl) rfl) rfl) rfl) rfl); have z7_ := congrArg Int32.toInt (rd_w k2294 (rd_w k2283 (rd_w k2170 (rd_w k2163 (rd_w k2157 ef1831 rfl) rfl) rfl) rfl) rfl); have z8_ := congrArg Int32.toInt (rd_w k2294 (rd_w k2283 (rd_w k2170 (rd_w k2163 (rd_w k2157 ef1832 rfl) rfl) rfl) rfl) rfl); have z9_ := congrArg Int32.toInt (rd_w k2294 (rd_w k2283 (rd_w k2170 (rd_w k2163 (rd_w k2157 ef1833 rfl) rfl) rfl) rfl) rfl); have z10_ := congrArg Int32.toInt (rd_w k2294 (rd_w k2283 (rd_w k2170 (rd_w k2163 (rd_w k2157 ef1834 rfl) rfl) rfl) rfl) rfl); have z_ := w_lits; have zl_ := l_lits; omega) (by have z0_ := congrArg Int32.toInt (rd_w k2294 (rd_w k2283 (rd_w k2170 (rd_w k2163 (rd_w k2157 z1824 rfl) rfl) rfl) rfl) rfl); have z1_ := congrArg Int32.toInt ef2295; have z2_ := congrArg Int32.toInt ef2296; have z3_ := congrArg Int32.toInt ef2297; have z4_ := congrArg Int32.toInt ef2298; have z5_ := congrArg Int32.toInt (rd_w k2294 (rd_w k2283 (rd_w k2170 (rd_w k2163 (rd_w k2157 ef1829 rfl) rfl) rfl) rfl) rfl); have z6_ := congrArg Int32.toInt (rd_w k2294 (rd_w k2283 (rd_w k2170 (rd_w k2163 (rd_w k2157 ef1830 rfl) rfl) rfl) rfl) rfl); have z7_ := congrArg Int32.toInt (rd_w k2294 (rd_w k2283 (rd_w k2170 (rd_w k2163 (rd_w k2157 ef1831 rfl) rfl) rfl) rfl) rfl); have z8_ := congrArg Int32.toInt (rd_w k2294 (rd_w k2283 (rd_w k2170 (rd_w k2163 (rd_w k2157 ef1832 rfl) rfl) rfl) rfl) rfl); have z9_ := congrArg Int32.toInt (rd_w k2294 (rd_w k2283 (rd_w k2170 (rd_w k2163 (rd_w k2157 ef1833 rfl) rfl) rfl) rfl) rfl); have z10_ := congrArg Int32.toInt (rd_w k2294 (rd_w k2283 (rd_w k2170 (rd_w k2163 (rd_w k2157 ef1834 rfl) rfl) rfl) rfl) rfl); have z_ := w_lits; have zl_ := l_lits; omega) (by have z0_ := congrArg Int32.toInt (rd_w k2294 (rd_w k2283 (rd_w k2170 (rd_w k2163 (rd_w k2157 z1824 rfl) rfl) rfl) rfl) rfl); have z1_ := congrArg Int32.toInt ef2295; have z2_ := congrArg Int32.toInt ef2296; have z3_ := congrArg Int32.toInt ef2297; have z4_ := congrArg Int32.toInt ef2298; have z5_ := congrArg Int32.toInt (rd_w k2294 (rd_w k2283 (rd_w k2170 (rd_w k2163 (rd_w k2157 ef1829 rfl) rfl) rfl) rfl) rfl); have z6_ := congrArg Int32.toInt (rd_w k2294 (rd_w k2283 (rd_w k2170 (rd_w k2163 (rd_w k2157 ef1830 rfl) rfl) rfl) rfl) rfl); have z7_ := congrArg Int32.toInt (rd_w k2294 (rd_w k2283 (rd_w k2170 (rd_w k2163 (rd_w k2157 ef1831 rfl) rfl) rfl) rfl) rfl); have z8_ := congrArg Int32.toInt (rd_w k2294 (rd_w k2283 (rd_w k2170 (rd_w k2163 (rd_w k2157 ef1832 rfl) rfl) rfl) rfl) rfl); have z9_ := congrArg Int32.toInt (rd_w k2294 (rd_w k2283 (rd_w k2170 (rd_w k2163 (rd_w k2157 ef1833 rfl) rfl) rfl) rfl) rfl); have z10_ := congrArg Int32.toInt (rd_w k2294 (rd_w k2283 (rd_w k2170 (rd_w k2163 (rd_w k2157 ef1834 rfl) rfl) rfl) rfl) rfl); have z_ := w_lits; have zl_ := l_lits; omega))))
                · have b2288 : B f2284 0 0 := R_eqX bf2284 (by decide : B 0 0 0) c2285
                  have z2289 := congrArg Int32.toInt c2285
                  rw [show (0 : Int32).toInt = 0 from by decide] at z2289
                  refine ev_aload_n rfl rfl rfl ?_
                  refine ev_getR (y := 76) rfl rfl fl_X10_60 rfl rfl rfl rfl ?_
                  refine ev_aload_n rfl rfl rfl ?_
                  refine ev_getV (v := f1830) rfl rfl fl_X10_241 rfl rfl rfl (rd_w k2283 (rd_w k2170 (rd_w k2163 (rd_w k2157 ef1830 rfl) rfl) rfl) rfl) ?_
                  rcases B.c5 (b2175.mono (by decide) (by decide)) with rfl | rfl | rfl | rfl | rfl
                  · refine ev_aload_n rfl rfl rfl ?_
                    refine ev_getV (v := f1829) rfl rfl fl_X10_234 rfl rfl rfl (rd_w k2283 (rd_w k2170 (rd_w k2163 (rd_w k2157 ef1829 rfl) rfl) rfl) rfl) ?_
                    refine ev_iasK (j := 0) (n := 5) (l := 0) (u := 60) hJ2283 (by decide : B 0 0 0) (by decide) (by decide) (by decide) rfl bf1829 (by decide) (by decide) rfl rfl rfl rfl rfl (fun h2300 hJ2300 k2300 => ?_)
                    refine ev_aload_n rfl rfl rfl ?_
                    refine ev_getR (y := 77) rfl rfl fl_X10_63 rfl rfl rfl rfl ?_
                    refine ev_aload_n rfl rfl rfl ?_
                    refine ev_getV (v := 0) rfl rfl fl_X10_241 rfl rfl rfl (rd_a k2300 (rd_w k2283 (rd_w k2170 (rd_w k2163 (rd_w k2157 ef1830 rfl) rfl) rfl) rfl) rfl) ?_
                    refine ev_iload_n rfl rfl rfl ?_
                    have b2301 : B f1827 0 20 := ⟨(by have z0_ := congrArg Int32.toInt (rd_a k2300 (rd_w k2283 (rd_w k2170 (rd_w k2163 (rd_w k2157 z1824 rfl) rfl) rfl) rfl) rfl); have z1_ := congrArg Int32.toInt (rd_a k2300 (rd_w k2283 (rd_w k2170 ef2164 rfl) rfl) rfl); have z2_ := congrArg Int32.toInt (rd_a k2300 ef2284 rfl); have z3_ := congrArg Int32.toInt (rd_a k2300 (rd_w k2283 (rd_w k2170 ef2166 rfl) rfl) rfl); have z4_ := congrArg Int32.toInt (rd_a k2300 (rd_w k2283 (rd_w k2170 ef2167 rfl) rfl) rfl); have z5_ := congrArg Int32.toInt (rd_a k2300 (rd_w k2283 (rd_w k2170 (rd_w k2163 (rd_w k2157 ef1829 rfl) rfl) rfl) rfl) rfl); have z6_ := congrArg Int32.toInt (rd_a k2300 (rd_w k2283 (rd_w k2170 (rd_w k2163 (rd_w k2157 ef1830 rfl) rfl) rfl) rfl) rfl); have z7_ := congrArg Int32.toInt (rd_s k2300); have z8_ := congrArg Int32.toInt (rd_o k2300 (rd_w k2283 (rd_w k2170 (rd_w k2163 (rd_w k2157 ef1832 rfl) rfl) rfl) rfl) rfl); have z9_ := congrArg Int32.toInt (rd_o k2300 (rd_w k2283 (rd_w k2170 (rd_w k2163 (rd_w k2157 ef1833 rfl) rfl) rfl) rfl) rfl); have z10_ := congrArg Int32.toInt (rd_o k2300 (rd_w k2283 (rd_w k2170 (rd_w k2163 (rd_w k2157 ef1834 rfl) rfl) rfl) rfl) rfl); have z_ := w_lits; have zl_ := l_lits; omega), (by have z0_ := congrArg Int32.toInt (rd_a k2300 (rd_w k2283 (rd_w k2170 (rd_w k2163 (rd_w k2157 z1824 rfl) rfl) rfl) rfl) rfl); have z1_ := congrArg Int32.toInt (rd_a k2300 (rd_w k2283 (rd_w k2170 ef2164 rfl) rfl) rfl); have z2_ := congrArg Int32.toInt (rd_a k2300 ef2284 rfl); have z3_ := congrArg Int32.toInt (rd_a k2300 (rd_w k2283 (rd_w k2170 ef2166 rfl) rfl) rfl); have z4_ := congrArg Int32.toInt (rd_a k2300 (rd_w k2283 (rd_w k2170 ef2167 rfl) rfl) rfl); have z5_ := congrArg Int32.toInt (rd_a k2300 (rd_w k2283 (rd_w k2170 (rd_w k2163 (rd_w k2157 ef1829 rfl) rfl) rfl) rfl) rfl); have z6_ := congrArg Int32.toInt (rd_a k2300 (rd_w k2283 (rd_w k2170 (rd_w k2163 (rd_w k2157 ef1830 rfl) rfl) rfl) rfl) rfl); have z7_ := congrArg Int32.toInt (rd_s k2300); have z8_ := congrArg Int32.toInt (rd_o k2300 (rd_w k2283 (rd_w k2170 (rd_w k2163 (rd_w k2157 ef1832 rfl) rfl) rfl) rfl) rfl); have z9_ := congrArg Int32.toInt (rd_o k2300 (rd_w k2283 (rd_w k2170 (rd_w k2163 (rd_w k2157 ef1833 rfl) rfl) rfl) rfl) rfl); have z10_ := congrArg Int32.toInt (rd_o k2300 (rd_w k2283 (rd_w k2170 (rd_w k2163 (rd_w k2157 ef1834 rfl) rfl) rfl) rfl) rfl); have z_ := w_lits; have zl_ := l_lits; omega)⟩
                    refine ev_iasW (n := 5) (l := 0) (u := 20) hJ2300 (by decide : B 0 0 0) (by decide) (by decide) (fun _ => rfl) b2301 (by decide) (by decide) (fun _ => rfl) rfl rfl rfl rfl (fun h2302 hJ2302 k2302 => ?_)
                    refine ev_aload_n rfl rfl rfl ?_
                    refine ev_dup rfl rfl rfl ?_
                    refine ev_getV (v := 0) rfl rfl fl_X10_241 rfl rfl rfl (rd_a k2302 (rd_a k2300 (rd_w k2283 (rd_w k2170 (rd_w k2163 (rd_w k2157 ef1830 rfl) rfl) rfl) rfl) rfl) rfl) ?_
                    refine ev_iconst (v := 1) rfl rfl (by decide) ?_
                    refine ev_iaddB (l := 1) (u := 1) rfl rfl (by decide : B 0 0 0) (by decide : B 1 1 1) (by decide) (by decide) (by decide) (by decide) (fun v2303 b2303 e2303 g2303 => ?_)
                    have e2303x := e2303; rw [show (0 : Int32).toInt = 0 from by decide] at e2303x
                    have e2303xx := e2303x; rw [show (1 : Int32).toInt = 1 from by decide] at e2303xx
                    have b2304 : B v2303 0 4 := ⟨(by have z0_ := congrArg Int32.toInt (rd_a k2302 (rd_a k2300 (rd_w k2283 (rd_w k2170 (rd_w k2163 (rd_w k2157 z1824 rfl) rfl) rfl) rfl) rfl) rfl); have z1_ := congrArg Int32.toInt (rd_a k2302 (rd_a k2300 (rd_w k2283 (rd_w k2170 ef2164 rfl) rfl) rfl) rfl); have z2_ := congrArg Int32.toInt (rd_a k2302 (rd_a k2300 ef2284 rfl) rfl); have z3_ := congrArg Int32.toInt (rd_a k2302 (rd_a k2300 (rd_w k2283 (rd_w k2170 ef2166 rfl) rfl) rfl) rfl); have z4_ := congrArg Int32.toInt (rd_a k2302 (rd_a k2300 (rd_w k2283 (rd_w k2170 ef2167 rfl) rfl) rfl) rfl); have z5_ := congrArg Int32.toInt (rd_a k2302 (rd_a k2300 (rd_w k2283 (rd_w k2170 (rd_w k2163 (rd_w k2157 ef1829 rfl) rfl) rfl) rfl) rfl) rfl); have z6_ := congrArg Int32.toInt (rd_a k2302 (rd_a k2300 (rd_w k2283 (rd_w k2170 (rd_w k2163 (rd_w k2157 ef1830 rfl) rfl) rfl) rfl) rfl) rfl); have z7_ := congrArg Int32.toInt (rd_a k2302 (rd_s k2300) rfl); have z8_ := congrArg Int32.toInt (rd_a k2302 (rd_o k2300 (rd_w k2283 (rd_w k2170 (rd_w k2163 (rd_w k2157 ef1832 rfl) rfl) rfl) rfl) rfl) rfl); have z9_ := congrArg Int32.toInt (rd_a k2302 (rd_o k2300 (rd_w k2283 (rd_w k2170 (rd_w k2163 (rd_w k2157 ef1833 rfl) rfl) rfl) rfl) rfl) rfl); have z10_ := congrArg Int32.toInt (rd_a k2302 (rd_o k2300 (rd_w k2283 (rd_w k2170 (rd_w k2163 (rd_w k2157 ef1834 rfl) rfl) rfl) rfl) rfl) rfl); have z_ := w_lits; have zl_ := l_lits; omega), (by have z0_ := congrArg Int32.toInt (rd_a k2302 (rd_a k2300 (rd_w k2283 (rd_w k2170 (rd_w k2163 (rd_w k2157 z1824 rfl) rfl) rfl) rfl) rfl) rfl); have z1_ := congrArg Int32.toInt (rd_a k2302 (rd_a k2300 (rd_w k2283 (rd_w k2170 ef2164 rfl) rfl) rfl) rfl); have z2_ := congrArg Int32.toInt (rd_a k2302 (rd_a k2300 ef2284 rfl) rfl); have z3_ := congrArg Int32.toInt (rd_a k2302 (rd_a k2300 (rd_w k2283 (rd_w k2170 ef2166 rfl) rfl) rfl) rfl); have z4_ := congrArg Int32.toInt (rd_a k2302 (rd_a k2300 (rd_w k2283 (rd_w k2170 ef2167 rfl) rfl) rfl) rfl); have z5_ := congrArg Int32.toInt (rd_a k2302 (rd_a k2300 (rd_w k2283 (rd_w k2170 (rd_w k2163 (rd_w k2157 ef1829 rfl) rfl) rfl) rfl) rfl) rfl); have z6_ := congrArg Int32.toInt (rd_a k2302 (rd_a k2300 (rd_w k2283 (rd_w k2170 (rd_w k2163 (rd_w k2157 ef1830 rfl) rfl) rfl) rfl) rfl) rfl); have z7_ := congrArg Int32.toInt (rd_a k2302 (rd_s k2300) rfl); have z8_ := congrArg Int32.toInt (rd_a k2302 (rd_o k2300 (rd_w k2283 (rd_w k2170 (rd_w k2163 (rd_w k2157 ef1832 rfl) rfl) rfl) rfl) rfl) rfl); have z9_ := congrArg Int32.toInt (rd_a k2302 (rd_o k2300 (rd_w k2283 (rd_w k2170 (rd_w k2163 (rd_w k2157 ef1833 rfl) rfl) rfl) rfl) rfl) rfl); have z10_ := congrArg Int32.toInt (rd_a k2302 (rd_o k2300 (rd_w k2283 (rd_w k2170 (rd_w k2163 (rd_w k2157 ef1834 rfl) rfl) rfl) rfl) rfl) rfl); have z_ := w_lits; have zl_ := l_lits; omega)⟩
                    refine ev_putW (l := 0) (u := 4) hJ2302 rfl b2304 (by decide) (by decide) rfl rfl rfl fl_X10_241 rfl rfl rfl rfl rfl (fun h2305 hJ2305 k2305 => ?_)
                    refine ev_iconst (v := 1) rfl rfl (by decide) ?_
                    refine ev_istore_n rfl rfl rfl rfl ?_
                    dsimp only [List.set]
                    refine ev_aload_n rfl rfl rfl ?_
                    have z2306 := congrArg Int32.toInt (rd_o k2305 (rd_a k2302 (rd_a k2300 (rd_w k2283 (rd_w k2170 (rd_w k2163 (rd_w k2157 z1824 rfl) rfl) rfl) rfl) rfl) rfl) rfl)
                    have z2307 := congrArg Int32.toInt (rd_o k2305 (rd_a k2302 (rd_a k2300 (rd_w k2283 (rd_w k2170 ef2164 rfl) rfl) rfl) rfl) rfl)
                    have z2308 := congrArg Int32.toInt (rd_o k2305 (rd_a k2302 (rd_a k2300 ef2284 rfl) rfl) rfl)
                    have z2309 := congrArg Int32.toInt (rd_o k2305 (rd_a k2302 (rd_a k2300 (rd_w k2283 (rd_w k2170 ef2166 rfl) rfl) rfl) rfl) rfl)
                    have z2310 := congrArg Int32.toInt (rd_o k2305 (rd_a k2302 (rd_a k2300 (rd_w k2283 (rd_w k2170 ef2167 rfl) rfl) rfl) rfl) rfl)
                    refine ev_V0K hJ2305 rfl rfl rfl lk_X10_251 vt_X10_next rfl rfl rfl rfl rfl (w_X10_next_63 L b h2305 hJ2305.1 (by have z0_ := congrArg Int32.toInt (rd_o k2305 (rd_a k2302 (rd_a k2300 (rd_w k2283 (rd_w k2170 (rd_w k2163 (rd_w k2157 z1824 rfl) rfl) rfl) rfl) rfl) rfl) rfl); have z1_ := congrArg Int32.toInt (rd_o k2305 (rd_a k2302 (rd_a k2300 (rd_w k2283 (rd_w k2170 ef2164 rfl) rfl) rfl) rfl) rfl); have z_ := w_lits; have zl_ := l_lits; omega)) (fun h2311 hJ2311 k2311 m2311 => ?_)
                    obtain ⟨m2311_0, m2311_1, m2311_2, m2311_3, m2311_4⟩ := m2311
                    obtain ⟨f2312, ef2312⟩ : ∃ f_, h2311 63 17 = f_ := ⟨_, rfl⟩
                    have bf2312 : B f2312 0 160 := by have z_ := hJ2311.1 63 17; rw [ef2312] at z_; exact z_
                    have zf2312 := congrArg Int32.toInt ef2312
                    obtain ⟨f2313, ef2313⟩ : ∃ f_, h2311 63 21 = f_ := ⟨_, rfl⟩
                    have bf2313 : B f2313 0 6 := by have z_ := hJ2311.1 63 21; rw [ef2313] at z_; exact z_
                    have zf2313 := congrArg Int32.toInt ef2313
                    obtain ⟨f2314, ef2314⟩ : ∃ f_, h2311 63 20 = f_ := ⟨_, rfl⟩
                    have zf2314 := congrArg Int32.toInt ef2314
                    obtain ⟨f2315, ef2315⟩ : ∃ f_, h2311 63 19 = f_ := ⟨_, rfl⟩
                    have bf2315 : B f2315 0 3 := by have z_ := hJ2311.1 63 19; rw [ef2315] at z_; exact z_
                    have zf2315 := congrArg Int32.toInt ef2315
                    have z2316 := congrArg Int32.toInt (rd_w k2311 (rd_o k2305 (rd_a k2302 (rd_a k2300 (rd_w k2283 (rd_w k2170 (rd_w k2163 (rd_w k2157 z1824 rfl) rfl) rfl) rfl) rfl) rfl) rfl) rfl)
                    refine ev_goto rfl rfl ?_
                    exact (EvQ.drop 3 (ih19 1 w1819 h2311 ((by decide : B 1 1 1).mono (by decide) (by decide)) b1821 hJ2311 (rd_w k2311 (rd_o k2305 (rd_a k2302 (rd_a k2300 (rd_w k2283 (rd_w k2170 (rd_w k2163 (rd_w k2157 z1824 rfl) rfl) rfl) rfl) rfl) rfl) rfl) rfl) (by have z0_ := congrArg Int32.toInt (rd_w k2311 (rd_o k2305 (rd_a k2302 (rd_a k2300 (rd_w k2283 (rd_w k2170 (rd_w k2163 (rd_w k2157 ef1829 rfl) rfl) rfl) rfl) rfl) rfl) rfl) rfl); have z1_ := congrArg Int32.toInt (rd_w k2311 (rd_s k2305) rfl); have z2_ := congrArg Int32.toInt (rd_w k2311 (rd_o k2305 (rd_a k2302 (rd_s k2300) rfl) rfl) rfl); have z_ := w_lits; have zl_ := l_lits; omega) (by have z0_ := congrArg Int32.toInt (rd_w k2311 (rd_o k2305 (rd_a k2302 (rd_a k2300 (rd_w k2283 (rd_w k2170 (rd_w k2163 (rd_w k2157 ef1829 rfl) rfl) rfl) rfl) rfl) rfl) rfl) rfl); have z1_ := congrArg Int32.toInt (rd_w k2311 (rd_s k2305) rfl); have z2_ := congrArg Int32.toInt (rd_w k2311 (rd_o k2305 (rd_a k2302 (rd_s k2300) rfl) rfl) rfl); have z3_ := congrArg Int32.toInt (rd_w k2311 (rd_o k2305 (rd_a k2302 (rd_o k2300 (rd_w k2283 (rd_w k2170 (rd_w k2163 (rd_w k2157 ef1832 rfl) rfl) rfl) rfl) rfl) rfl) rfl) rfl); have z_ := w_lits; have zl_ := l_lits; omega) (by have z0_ := congrArg Int32.toInt (rd_w k2311 (rd_o k2305 (rd_a k2302 (rd_a k2300 (rd_w k2283 (rd_w k2170 (rd_w k2163 (rd_w k2157 ef1829 rfl) rfl) rfl) rfl) rfl) rfl) rfl) rfl); have z1_ := congrArg Int32.toInt (rd_w k2311 (rd_s k2305) rfl); have z2_ := congrArg Int32.toInt (rd_w k2311 (rd_o k2305 (rd_a k2302 (rd_o k2300 (rd_w k2283 (rd_w k2170 (rd_w k2163 (rd_w k2157 ef1832 rfl) rfl) rfl) rfl) rfl) rfl) rfl) rfl); have z3_ := congrArg Int32.toInt (rd_w k2311 (rd_o k2305 (rd_a k2302 (rd_o k2300 (rd_w k2283 (rd_w k2170 (rd_w k2163 (rd_w k2157 ef1833 rfl) rfl) rfl) rfl) rfl) rfl) rfl) rfl); have z_ := w_lits; have zl_ := l_lits; omega) (by have z0_ := congrArg Int32.toInt (rd_w k2311 (rd_o k2305 (rd_a k2302 (rd_a k2300 (rd_w k2283 (rd_w k2170 (rd_w k2163 (rd_w k2157 ef1829 rfl) rfl) rfl) rfl) rfl) rfl) rfl) rfl); have z1_ := congrArg Int32.toInt (rd_w k2311 (rd_s k2305) rfl); have z2_ := congrArg Int32.toInt (rd_w k2311 (rd_o k2305 (rd_a k2302 (rd_o k2300 (rd_w k2283 (rd_w k2170 (rd_w k2163 (rd_w k2157 ef1833 rfl) rfl) rfl) rfl) rfl) rfl) rfl) rfl); have z3_ := congrArg Int32.toInt (rd_w k2311 (rd_o k2305 (rd_a k2302 (rd_o k2300 (rd_w k2283 (rd_w k2170 (rd_w k2163 (rd_w k2157 ef1834 rfl) rfl) rfl) rfl) rfl) rfl) rfl) rfl); have z_ := w_lits; have zl_ := l_lits; omega) (by have z0_ := congrArg Int32.toInt (rd_w k2311 (rd_o k2305 (rd_a k2302 (rd_a k2300 (rd_w k2283 (rd_w k2170 (rd_w k2163 (rd_w k2157 z1824 rfl) rfl) rfl) rfl) rfl) rfl) rfl) rfl); have z1_ := congrArg Int32.toInt ef2312; have z_ := w_lits; have zl_ := l_lits; omega) (by have z0_ := congrArg Int32.toInt ef2313; have z1_ := congrArg Int32.toInt ef2314; have z2_ := congrArg Int32.toInt ef2315; have z_ := w_lits; have zl_ := l_lits; omega) (mM_dec hm19 (by have z0_ := congrArg Int32.toInt (rd_w k2311 (rd_o k2305 (rd_a k2302 (rd_a k2300 (rd_w k2283 (rd_w k2170 (rd_w k2163 (rd_w k2157 z1824 rfl) rfl) rfl) rfl) rfl) rfl) rfl) rfl); have z1_ := congrArg Int32.toInt ef2312; have z2_ := congrArg Int32.toInt ef2313; have z3_ := congrArg Int32.toInt ef2314; have z4_ := congrArg Int32.toInt ef2315; have z5_ := congrArg Int32.toInt (rd_w k2311 (rd_o k2305 (rd_a k2302 (rd_a k2300 (rd_w k2283 (rd_w k2170 (rd_w k2163 (rd_w k2157 ef1829 rfl) rfl) rfl) rfl) rfl) rfl) rfl) rfl); have z6_ := congrArg Int32.toInt (rd_w k2311 (rd_s k2305) rfl); have z7_ := congrArg Int32.toInt (rd_w k2311 (rd_o k2305 (rd_a k2302 (rd_s k2300) rfl) rfl) rfl); have z8_ := congrArg Int32.toInt (rd_w k2311 (rd_o k2305 (rd_a k2302 (rd_o k2300 (rd_w k2283 (rd_w k2170 (rd_w k2163 (rd_w k2157 ef1832 rfl) rfl) rfl) rfl) rfl) rfl) rfl) rfl); have z9_ := congrArg Int32.toInt (rd_w k2311 (rd_o k2305 (rd_a k2302 (rd_o k2300 (rd_w k2283 (rd_w k2170 (rd_w k2163 (rd_w k2157 ef1833 rfl) rfl) rfl) rfl) rfl) rfl) rfl) rfl); have z10_ := congrArg Int32.toInt (rd_w k2311 (rd_o k2305 (rd_a k2302 (rd_o k2300 (rd_w k2283 (rd_w k2170 (rd_w k2163 (rd_w k2157 ef1834 rfl) rfl) rfl) rfl) rfl) rfl) rfl) rfl); have z_ := w_lits; have zl_ := l_lits; omega) (by have z0_ := congrArg Int32.toInt (rd_w k2311 (rd_o k2305 (rd_a k2302 (rd_a k2300 (rd_w k2283 (rd_w k2170 (rd_w k2163 (rd_w k2157 z1824 rfl) rfl) rfl) rfl) rfl) rfl) rfl) rfl); have z1_ := congrArg Int32.toInt ef2312; have z2_ := congrArg Int32.toInt ef2313; have z3_ := congrArg Int32.toInt ef2314; have z4_ := congrArg Int32.toInt ef2315; have z5_ := congrArg Int32.toInt (rd_w k2311 (rd_o k2305 (rd_a k2302 (rd_a k2300 (rd_w k2283 (rd_w k2170 (rd_w k2163 (rd_w k2157 ef1829 rfl) rfl) rfl) rfl) rfl) rfl) rfl) rfl); have z6_ := congrArg Int32.toInt (rd_w k2311 (rd_s k2305) rfl); have z7_ := congrArg Int32.toInt (rd_w k2311 (rd_o k2305 (rd_a k2302 (rd_s k2300) rfl) rfl) rfl); have z8_ := congrArg Int32.toInt (rd_w k2311 (rd_o k2305 (rd_a k2302 (rd_o k2300 (rd_w k2283 (rd_w k2170 (rd_w k2163 (rd_w k2157 ef1832 rfl) rfl) rfl) rfl) rfl) rfl) rfl) rfl); have z9_ := congrArg Int32.toInt (rd_w k2311 (rd_o k2305 (rd_a k2302 (rd_o k2300 (rd_w k2283 (rd_w k2170 (rd_w k2163 (rd_w k2157 ef1833 rfl) rfl) rfl) rfl) rfl) rfl) rfl) rfl); have z10_ := congrArg Int32.toInt (rd_w k2311 (rd_o k2305 (rd_a k2302 (rd_o k2300 (rd_w k2283 (rd_w k2170 (rd_w k2163 (rd_w k2157 ef1834 rfl) rfl) rfl) rfl) rfl) rfl) rfl) rfl); have z_ := w_lits; have zl_ := l_lits; omega) (by have z0_ := congrArg Int32.toInt (rd_w k2311 (rd_o k2305 (rd_a k2302 (rd_a k2300 (rd_w k2283 (rd_w k2170 (rd_w k2163 (rd_w k2157 z1824 rfl) rfl) rfl) rfl) rfl) rfl) rfl) rfl); have z1_ := congrArg Int32.toInt ef2312; have z2_ := congrArg Int32.toInt ef2313; have z3_ := congrArg Int32.toInt ef2314; have z4_ := congrArg Int32.toInt ef2315; have z5_ := congrArg Int32.toInt (rd_w k2311 (rd_o k2305 (rd_a k2302 (rd_a k2300 (rd_w k2283 (rd_w k2170 (rd_w k2163 (rd_w k2157 ef1829 rfl) rfl) rfl) rfl) rfl) rfl) rfl) rfl); have z6_ := congrArg Int32.toInt (rd_w k2311 (rd_s k2305) rfl); have z7_ := congrArg Int32.toInt (rd_w k2311 (rd_o k2305 (rd_a k2302 (rd_s k2300) rfl) rfl) rfl); have z8_ := congrArg Int32.toInt (rd_w k2311 (rd_o k2305 (rd_a k2302 (rd_o k2300 (rd_w k2283 (rd_w k2170 (rd_w k2163 (rd_w k2157 ef1832 rfl) rfl) rfl) rfl) rfl) rfl) rfl) rfl); have z9_ := congrArg Int32.toInt (rd_w k2311 (rd_o k2305 (rd_a k2302 (rd_o k2300 (rd_w k2283 (rd_w k2170 (rd_w k2163 (rd_w k2157 ef1833 rfl) rfl) rfl) rfl) rfl) rfl) rfl) rfl); have z10_ := congrArg Int32.toInt (rd_w k2311 (rd_o k2305 (rd_a k2302 (rd_o k2300 (rd_w k2283 (rd_w k2170 (rd_w k2163 (rd_w k2157 ef1834 rfl) rfl) rfl) rfl) rfl) rfl) rfl) rfl); have z_ := w_lits; have zl_ := l_lits; omega))))
                  · refine ev_aload_n rfl rfl rfl ?_
                    refine ev_getV (v := f1829) rfl rfl fl_X10_234 rfl rfl rfl (rd_w k2283 (rd_w k2170 (rd_w k2163 (rd_w k2157 ef1829 rfl) rfl) rfl) rfl) ?_
                    refine ev_iasK (j := 1) (n := 5) (l := 0) (u := 60) hJ2283 (by decide : B 1 1 1) (by decide) (by decide) (by decide) rfl bf1829 (by decide) (by decide) rfl rfl rfl rfl rfl (fun h2317 hJ2317 k2317 => ?_)
                    refine ev_aload_n rfl rfl rfl ?_
                    refine ev_getR (y := 77) rfl rfl fl_X10_63 rfl rfl rfl rfl ?_
                    refine ev_aload_n rfl rfl rfl ?_
                    refine ev_getV (v := 1) rfl rfl fl_X10_241 rfl rfl rfl (rd_a k2317 (rd_w k2283 (rd_w k2170 (rd_w k2163 (rd_w k2157 ef1830 rfl) rfl) rfl) rfl) rfl) ?_
                    refine ev_iload_n rfl rfl rfl ?_
                    have b2318 : B f1827 0 20 := ⟨(by have z0_ := congrArg Int32.toInt (rd_a k2317 (rd_w k2283 (rd_w k2170 (rd_w k2163 (rd_w k2157 z1824 rfl) rfl) rfl) rfl) rfl); have z1_ := congrArg Int32.toInt (rd_a k2317 (rd_w k2283 (rd_w k2170 ef2164 rfl) rfl) rfl); have z2_ := congrArg Int32.toInt (rd_a k2317 ef2284 rfl); have z3_ := congrArg Int32.toInt (rd_a k2317 (rd_w k2283 (rd_w k2170 ef2166 rfl) rfl) rfl); have z4_ := congrArg Int32.toInt (rd_a k2317 (rd_w k2283 (rd_w k2170 ef2167 rfl) rfl) rfl); have z5_ := congrArg Int32.toInt (rd_a k2317 (rd_w k2283 (rd_w k2170 (rd_w k2163 (rd_w k2157 ef1829 rfl) rfl) rfl) rfl) rfl); have z6_ := congrArg Int32.toInt (rd_a k2317 (rd_w k2283 (rd_w k2170 (rd_w k2163 (rd_w k2157 ef1830 rfl) rfl) rfl) rfl) rfl); have z7_ := congrArg Int32.toInt (rd_o k2317 (rd_w k2283 (rd_w k2170 (rd_w k2163 (rd_w k2157 ef1831 rfl) rfl) rfl) rfl) rfl); have z8_ := congrArg Int32.toInt (rd_s k2317); have z9_ := congrArg Int32.toInt (rd_o k2317 (rd_w k2283 (rd_w k2170 (rd_w k2163 (rd_w k2157 ef1833 rfl) rfl) rfl) rfl) rfl); have z10_ := congrArg Int32.toInt (rd_o k2317 (rd_w k2283 (rd_w k2170 (rd_w k2163 (rd_w k2157 ef1834 rfl) rfl) rfl) rfl) rfl); have z_ := w_lits; have zl_ := l_lits; omega), (by have z0_ := congrArg Int32.toInt (rd_a k2317 (rd_w k2283 (rd_w k2170 (rd_w k2163 (rd_w k2157 z1824 rfl) rfl) rfl) rfl) rfl); have z1_ := congrArg Int32.toInt (rd_a k2317 (rd_w k2283 (rd_w k2170 ef2164 rfl) rfl) rfl); have z2_ := congrArg Int32.toInt (rd_a k2317 ef2284 rfl); have z3_ := congrArg Int32.toInt (rd_a k2317 (rd_w k2283 (rd_w k2170 ef2166 rfl) rfl) rfl); have z4_ := congrArg Int32.toInt (rd_a k2317 (rd_w k2283 (rd_w k2170 ef2167 rfl) rfl) rfl); have z5_ := congrArg Int32.toInt (rd_a k2317 (rd_w k2283 (rd_w k2170 (rd_w k2163 (rd_w k2157 ef1829 rfl) rfl) rfl) rfl) rfl); have z6_ := congrArg Int32.toInt (rd_a k2317 (rd_w k2283 (rd_w k2170 (rd_w k2163 (rd_w k2157 ef1830 rfl) rfl) rfl) rfl) rfl); have z7_ := congrArg Int32.toInt (rd_o k2317 (rd_w k2283 (rd_w k2170 (rd_w k2163 (rd_w k2157 ef1831 rfl) rfl) rfl) rfl) rfl); have z8_ := congrArg Int32.toInt (rd_s k2317); have z9_ := congrArg Int32.toInt (rd_o k2317 (rd_w k2283 (rd_w k2170 (rd_w k2163 (rd_w k2157 ef1833 rfl) rfl) rfl) rfl) rfl); have z10_ := congrArg Int32.toInt (rd_o k2317 (rd_w k2283 (rd_w k2170 (rd_w k2163 (rd_w k2157 ef1834 rfl) rfl) rfl) rfl) rfl); have z_ := w_lits; have zl_ := l_lits; omega)⟩
                    refine ev_iasW (n := 5) (l := 0) (u := 20) hJ2317 (by decide : B 1 1 1) (by decide) (by decide) (fun _ => rfl) b2318 (by decide) (by decide) (fun _ => rfl) rfl rfl rfl rfl (fun h2319 hJ2319 k2319 => ?_)
                    refine ev_aload_n rfl rfl rfl ?_
                    refine ev_dup rfl rfl rfl ?_
                    refine ev_getV (v := 1) rfl rfl fl_X10_241 rfl rfl rfl (rd_a k2319 (rd_a k2317 (rd_w k2283 (rd_w k2170 (rd_w k2163 (rd_w k2157 ef1830 rfl) rfl) rfl) rfl) rfl) rfl) ?_
                    refine ev_iconst (v := 1) rfl rfl (by decide) ?_
                    refine ev_iaddB (l := 2) (u := 2) rfl rfl (by decide : B 1 1 1) (by decide : B 1 1 1) (by decide) (by decide) (by decide) (by decide) (fun v2320 b2320 e2320 g2320 => ?_)
                    have e2320x := e2320; rw [show (1 : Int32).toInt = 1 from by decide] at e2320x
                    have b2321 : B v2320 0 4 := ⟨(by have z0_ := congrArg Int32.toInt (rd_a k2319 (rd_a k2317 (rd_w k2283 (rd_w k2170 (rd_w k2163 (rd_w k2157 z1824 rfl) rfl) rfl) rfl) rfl) rfl); have z1_ := congrArg Int32.toInt (rd_a k2319 (rd_a k2317 (rd_w k2283 (rd_w k2170 ef2164 rfl) rfl) rfl) rfl); have z2_ := congrArg Int32.toInt (rd_a k2319 (rd_a k2317 ef2284 rfl) rfl); have z3_ := congrArg Int32.toInt (rd_a k2319 (rd_a k2317 (rd_w k2283 (rd_w k2170 ef2166 rfl) rfl) rfl) rfl); have z4_ := congrArg Int32.toInt (rd_a k2319 (rd_a k2317 (rd_w k2283 (rd_w k2170 ef2167 rfl) rfl) rfl) rfl); have z5_ := congrArg Int32.toInt (rd_a k2319 (rd_a k2317 (rd_w k2283 (rd_w k2170 (rd_w k2163 (rd_w k2157 ef1829 rfl) rfl) rfl) rfl) rfl) rfl); have z6_ := congrArg Int32.toInt (rd_a k2319 (rd_a k2317 (rd_w k2283 (rd_w k2170 (rd_w k2163 (rd_w k2157 ef1830 rfl) rfl) rfl) rfl) rfl) rfl); have z7_ := congrArg Int32.toInt (rd_a k2319 (rd_o k2317 (rd_w k2283 (rd_w k2170 (rd_w k2163 (rd_w k2157 ef1831 rfl) rfl) rfl) rfl) rfl) rfl); have z8_ := congrArg Int32.toInt (rd_a k2319 (rd_s k2317) rfl); have z9_ := congrArg Int32.toInt (rd_a k2319 (rd_o k2317 (rd_w k2283 (rd_w k2170 (rd_w k2163 (rd_w k2157 ef1833 rfl) rfl) rfl) rfl) rfl) rfl); have z10_ := congrArg Int32.toInt (rd_a k2319 (rd_o k2317 (rd_w k2283 (rd_w k2170 (rd_w k2163 (rd_w k2157 ef1834 rfl) rfl) rfl) rfl) rfl) rfl); have z_ := w_lits; have zl_ := l_lits; omega), (by have z0_ := congrArg Int32.toInt (rd_a k2319 (rd_a k2317 (rd_w k2283 (rd_w k2170 (rd_w k2163 (rd_w k2157 z1824 rfl) rfl) rfl) rfl) rfl) rfl); have z1_ := congrArg Int32.toInt (rd_a k2319 (rd_a k2317 (rd_w k2283 (rd_w k2170 ef2164 rfl) rfl) rfl) rfl); have z2_ := congrArg Int32.toInt (rd_a k2319 (rd_a k2317 ef2284 rfl) rfl); have z3_ := congrArg Int32.toInt (rd_a k2319 (rd_a k2317 (rd_w k2283 (rd_w k2170 ef2166 rfl) rfl) rfl) rfl); have z4_ := congrArg Int32.toInt (rd_a k2319 (rd_a k2317 (rd_w k2283 (rd_w k2170 ef2167 rfl) rfl) rfl) rfl); have z5_ := congrArg Int32.toInt (rd_a k2319 (rd_a k2317 (rd_w k2283 (rd_w k2170 (rd_w k2163 (rd_w k2157 ef1829 rfl) rfl) rfl) rfl) rfl) rfl); have z6_ := congrArg Int32.toInt (rd_a k2319 (rd_a k2317 (rd_w k2283 (rd_w k2170 (rd_w k2163 (rd_w k2157 ef1830 rfl) rfl) rfl) rfl) rfl) rfl); have z7_ := congrArg Int32.toInt (rd_a k2319 (rd_o k2317 (rd_w k2283 (rd_w k2170 (rd_w k2163 (rd_w k2157 ef1831 rfl) rfl) rfl) rfl) rfl) rfl); have z8_ := congrArg Int32.toInt (rd_a k2319 (rd_s k2317) rfl); have z9_ := congrArg Int32.toInt (rd_a k2319 (rd_o k2317 (rd_w k2283 (rd_w k2170 (rd_w k2163 (rd_w k2157 ef1833 rfl) rfl) rfl) rfl) rfl) rfl); have z10_ := congrArg Int32.toInt (rd_a k2319 (rd_o k2317 (rd_w k2283 (rd_w k2170 (rd_w k2163 (rd_w k2157 ef1834 rfl) rfl) rfl) rfl) rfl) rfl); have z_ := w_lits; have zl_ := l_lits; omega)⟩
                    refine ev_putW (l := 0) (u := 4) hJ2319 rfl b2321 (by decide) (by decide) rfl rfl rfl fl_X10_241 rfl rfl rfl rfl rfl (fun h2322 hJ2322 k2322 => ?_)
                    refine ev_iconst (v := 1) rfl rfl (by decide) ?_
                    refine ev_istore_n rfl rfl rfl rfl ?_
                    dsimp only [List.set]
                    refine ev_aload_n rfl rfl rfl ?_
                    have z2323 := congrArg Int32.toInt (rd_o k2322 (rd_a k2319 (rd_a k2317 (rd_w k2283 (rd_w k2170 (rd_w k2163 (rd_w k2157 z1824 rfl) rfl) rfl) rfl) rfl) rfl) rfl)
                    have z2324 := congrArg Int32.toInt (rd_o k2322 (rd_a k2319 (rd_a k2317 (rd_w k2283 (rd_w k2170 ef2164 rfl) rfl) rfl) rfl) rfl)
                    have z2325 := congrArg Int32.toInt (rd_o k2322 (rd_a k2319 (rd_a k2317 ef2284 rfl) rfl) rfl)
                    have z2326 := congrArg Int32.toInt (rd_o k2322 (rd_a k2319 (rd_a k2317 (rd_w k2283 (rd_w k2170 ef2166 rfl) rfl) rfl) rfl) rfl)
                    have z2327 := congrArg Int32.toInt (rd_o k2322 (rd_a k2319 (rd_a k2317 (rd_w k2283 (rd_w k2170 ef2167 rfl) rfl) rfl) rfl) rfl)
                    refine ev_V0K hJ2322 rfl rfl rfl lk_X10_251 vt_X10_next rfl rfl rfl rfl rfl (w_X10_next_63 L b h2322 hJ2322.1 (by have z0_ := congrArg Int32.toInt (rd_o k2322 (rd_a k2319 (rd_a k2317 (rd_w k2283 (rd_w k2170 (rd_w k2163 (rd_w k2157 z1824 rfl) rfl) rfl) rfl) rfl) rfl) rfl); have z1_ := congrArg Int32.toInt (rd_o k2322 (rd_a k2319 (rd_a k2317 (rd_w k2283 (rd_w k2170 ef2164 rfl) rfl) rfl) rfl) rfl); have z_ := w_lits; have zl_ := l_lits; omega)) (fun h2328 hJ2328 k2328 m2328 => ?_)
                    obtain ⟨m2328_0, m2328_1, m2328_2, m2328_3, m2328_4⟩ := m2328
                    obtain ⟨f2329, ef2329⟩ : ∃ f_, h2328 63 17 = f_ := ⟨_, rfl⟩
                    have bf2329 : B f2329 0 160 := by have z_ := hJ2328.1 63 17; rw [ef2329] at z_; exact z_
                    have zf2329 := congrArg Int32.toInt ef2329
                    obtain ⟨f2330, ef2330⟩ : ∃ f_, h2328 63 21 = f_ := ⟨_, rfl⟩
                    have bf2330 : B f2330 0 6 := by have z_ := hJ2328.1 63 21; rw [ef2330] at z_; exact z_
                    have zf2330 := congrArg Int32.toInt ef2330
                    obtain ⟨f2331, ef2331⟩ : ∃ f_, h2328 63 20 = f_ := ⟨_, rfl⟩
                    have zf2331 := congrArg Int32.toInt ef2331
                    obtain ⟨f2332, ef2332⟩ : ∃ f_, h2328 63 19 = f_ := ⟨_, rfl⟩
                    have bf2332 : B f2332 0 3 := by have z_ := hJ2328.1 63 19; rw [ef2332] at z_; exact z_
                    have zf2332 := congrArg Int32.toInt ef2332
                    have z2333 := congrArg Int32.toInt (rd_w k2328 (rd_o k2322 (rd_a k2319 (rd_a k2317 (rd_w k2283 (rd_w k2170 (rd_w k2163 (rd_w k2157 z1824 rfl) rfl) rfl) rfl) rfl) rfl) rfl) rfl)
                    refine ev_goto rfl rfl ?_
                    exact (EvQ.drop 3 (ih19 1 w1819 h2328 ((by decide : B 1 1 1).mono (by decide) (by decide)) b1821 hJ2328 (rd_w k2328 (rd_o k2322 (rd_a k2319 (rd_a k2317 (rd_w k2283 (rd_w k2170 (rd_w k2163 (rd_w k2157 z1824 rfl) rfl) rfl) rfl) rfl) rfl) rfl) rfl) (by have z0_ := congrArg Int32.toInt (rd_w k2328 (rd_o k2322 (rd_a k2319 (rd_a k2317 (rd_w k2283 (rd_w k2170 (rd_w k2163 (rd_w k2157 ef1829 rfl) rfl) rfl) rfl) rfl) rfl) rfl) rfl); have z1_ := congrArg Int32.toInt (rd_w k2328 (rd_s k2322) rfl); have z2_ := congrArg Int32.toInt (rd_w k2328 (rd_o k2322 (rd_a k2319 (rd_o k2317 (rd_w k2283 (rd_w k2170 (rd_w k2163 (rd_w k2157 ef1831 rfl) rfl) rfl) rfl) rfl) rfl) rfl) rfl); have z_ := w_lits; have zl_ := l_lits; omega) (by have z0_ := congrArg Int32.toInt (rd_w k2328 (rd_o k2322 (rd_a k2319 (rd_a k2317 (rd_w k2283 (rd_w k2170 (rd_w k2163 (rd_w k2157 ef1829 rfl) rfl) rfl) rfl) rfl) rfl) rfl) rfl); have z1_ := congrArg Int32.toInt (rd_w k2328 (rd_s k2322) rfl); have z2_ := congrArg Int32.toInt (rd_w k2328 (rd_o k2322 (rd_a k2319 (rd_o k2317 (rd_w k2283 (rd_w k2170 (rd_w k2163 (rd_w k2157 ef1831 rfl) rfl) rfl) rfl) rfl) rfl) rfl) rfl); have z3_ := congrArg Int32.toInt (rd_w k2328 (rd_o k2322 (rd_a k2319 (rd_s k2317) rfl) rfl) rfl); have z_ := w_lits; have zl_ := l_lits; omega) (by have z0_ := congrArg Int32.toInt (rd_w k2328 (rd_o k2322 (rd_a k2319 (rd_a k2317 (rd_w k2283 (rd_w k2170 (rd_w k2163 (rd_w k2157 ef1829 rfl) rfl) rfl) rfl) rfl) rfl) rfl) rfl); have z1_ := congrArg Int32.toInt (rd_w k2328 (rd_s k2322) rfl); have z2_ := congrArg Int32.toInt (rd_w k2328 (rd_o k2322 (rd_a k2319 (rd_s k2317) rfl) rfl) rfl); have z3_ := congrArg Int32.toInt (rd_w k2328 (rd_o k2322 (rd_a k2319 (rd_o k2317 (rd_w k2283 (rd_w k2170 (rd_w k2163 (rd_w k2157 ef1833 rfl) rfl) rfl) rfl) rfl) rfl) rfl) rfl); have z_ := w_lits; have zl_ := l_lits; omega) (by have z0_ := congrArg Int32.toInt (rd_w k2328 (rd_o k2322 (rd_a k2319 (rd_a k2317 (rd_w k2283 (rd_w k2170 (rd_w k2163 (rd_w k2157 ef1829 rfl) rfl) rfl) rfl) rfl) rfl) rfl) rfl); have z1_ := congrArg Int32.toInt (rd_w k2328 (rd_s k2322) rfl); have z2_ := congrArg Int32.toInt (rd_w k2328 (rd_o k2322 (rd_a k2319 (rd_o k2317 (rd_w k2283 (rd_w k2170 (rd_w k2163 (rd_w k2157 ef1833 rfl) rfl) rfl) rfl) rfl) rfl) rfl) rfl); have z3_ := congrArg Int32.toInt (rd_w k2328 (rd_o k2322 (rd_a k2319 (rd_o k2317 (rd_w k2283 (rd_w k2170 (rd_w k2163 (rd_w k2157 ef1834 rfl) rfl) rfl) rfl) rfl) rfl) rfl) rfl); have z_ := w_lits; have zl_ := l_lits; omega) (by have z0_ := congrArg Int32.toInt (rd_w k2328 (rd_o k2322 (rd_a k2319 (rd_a k2317 (rd_w k2283 (rd_w k2170 (rd_w k2163 (rd_w k2157 z1824 rfl) rfl) rfl) rfl) rfl) rfl) rfl) rfl); have z1_ := congrArg Int32.toInt ef2329; have z_ := w_lits; have zl_ := l_lits; omega) (by have z0_ := congrArg Int32.toInt ef2330; have z1_ := congrArg Int32.toInt ef2331; have z2_ := congrArg Int32.toInt ef2332; have z_ := w_lits; have zl_ := l_lits; omega) (mM_dec hm19 (by have z0_ := congrArg Int32.toInt (rd_w k2328 (rd_o k2322 (rd_a k2319 (rd_a k2317 (rd_w k2283 (rd_w k2170 (rd_w k2163 (rd_w k2157 z1824 rfl) rfl) rfl) rfl) rfl) rfl) rfl) rfl); have z1_ := congrArg Int32.toInt ef2329; have z2_ := congrArg Int32.toInt ef2330; have z3_ := congrArg Int32.toInt ef2331; have z4_ := congrArg Int32.toInt ef2332; have z5_ := congrArg Int32.toInt (rd_w k2328 (rd_o k2322 (rd_a k2319 (rd_a k2317 (rd_w k2283 (rd_w k2170 (rd_w k2163 (rd_w k2157 ef1829 rfl) rfl) rfl) rfl) rfl) rfl) rfl) rfl); have z6_ := congrArg Int32.toInt (rd_w k2328 (rd_s k2322) rfl); have z7_ := congrArg Int32.toInt (rd_w k2328 (rd_o k2322 (rd_a k2319 (rd_o k2317 (rd_w k2283 (rd_w k2170 (rd_w k2163 (rd_w k2157 ef1831 rfl) rfl) rfl) rfl) rfl) rfl) rfl) rfl); have z8_ := congrArg Int32.toInt (rd_w k2328 (rd_o k2322 (rd_a k2319 (rd_s k2317) rfl) rfl) rfl); have z9_ := congrArg Int32.toInt (rd_w k2328 (rd_o k2322 (rd_a k2319 (rd_o k2317 (rd_w k2283 (rd_w k2170 (rd_w k2163 (rd_w k2157 ef1833 rfl) rfl) rfl) rfl) rfl) rfl) rfl) rfl); have z10_ := congrArg Int32.toInt (rd_w k2328 (rd_o k2322 (rd_a k2319 (rd_o k2317 (rd_w k2283 (rd_w k2170 (rd_w k2163 (rd_w k2157 ef1834 rfl) rfl) rfl) rfl) rfl) rfl) rfl) rfl); have z_ := w_lits; have zl_ := l_lits; omega) (by have z0_ := congrArg Int32.toInt (rd_w k2328 (rd_o k2322 (rd_a k2319 (rd_a k2317 (rd_w k2283 (rd_w k2170 (rd_w k2163 (rd_w k2157 z1824 rfl) rfl) rfl) rfl) rfl) rfl) rfl) rfl); have z1_ := congrArg Int32.toInt ef2329; have z2_ := congrArg Int32.toInt ef2330; have z3_ := congrArg Int32.toInt ef2331; have z4_ := congrArg Int32.toInt ef2332; have z5_ := congrArg Int32.toInt (rd_w k2328 (rd_o k2322 (rd_a k2319 (rd_a k2317 (rd_w k2283 (rd_w k2170 (rd_w k2163 (rd_w k2157 ef1829 rfl) rfl) rfl) rfl) rfl) rfl) rfl) rfl); have z6_ := congrArg Int32.toInt (rd_w k2328 (rd_s k2322) rfl); have z7_ := congrArg Int32.toInt (rd_w k2328 (rd_o k2322 (rd_a k2319 (rd_o k2317 (rd_w k2283 (rd_w k2170 (rd_w k2163 (rd_w k2157 ef1831 rfl) rfl) rfl) rfl) rfl) rfl) rfl) rfl); have z8_ := congrArg Int32.toInt (rd_w k2328 (rd_o k2322 (rd_a k2319 (rd_s k2317) rfl) rfl) rfl); have z9_ := congrArg Int32.toInt (rd_w k2328 (rd_o k2322 (rd_a k2319 (rd_o k2317 (rd_w k2283 (rd_w k2170 (rd_w k2163 (rd_w k2157 ef1833 rfl) rfl) rfl) rfl) rfl) rfl) rfl) rfl); have z10_ := congrArg Int32.toInt (rd_w k2328 (rd_o k2322 (rd_a k2319 (rd_o k2317 (rd_w k2283 (rd_w k2170 (rd_w k2163 (rd_w k2157 ef1834 rfl) rfl) rfl) rfl) rfl) rfl) rfl) rfl); have z_ := w_lits; have zl_ := l_lits; omega) (by have z0_ := congrArg Int32.toInt (rd_w k2328 (rd_o k2322 (rd_a k2319 (rd_a k2317 (rd_w k2283 (rd_w k2170 (rd_w k2163 (rd_w k2157 z1824 rfl) rfl) rfl) rfl) rfl) rfl) rfl) rfl); have z1_ := congrArg Int32.toInt ef2329; have z2_ := congrArg Int32.toInt ef2330; have z3_ := congrArg Int32.toInt ef2331; have z4_ := congrArg Int32.toInt ef2332; have z5_ := congrArg Int32.toInt (rd_w k2328 (rd_o k2322 (rd_a k2319 (rd_a k2317 (rd_w k2283 (rd_w k2170 (rd_w k2163 (rd_w k2157 ef1829 rfl) rfl) rfl) rfl) rfl) rfl) rfl) rfl); have z6_ := congrArg Int32.toInt (rd_w k2328 (rd_s k2322) rfl); have z7_ := congrArg Int32.toInt (rd_w k2328 (rd_o k2322 (rd_a k2319 (rd_o k2317 (rd_w k2283 (rd_w k2170 (rd_w k2163 (rd_w k2157 ef1831 rfl) rfl) rfl) rfl) rfl) rfl) rfl) rfl); have z8_ := congrArg Int32.toInt (rd_w k2328 (rd_o k2322 (rd_a k2319 (rd_s k2317) rfl) rfl) rfl); have z9_ := congrArg Int32.toInt (rd_w k2328 (rd_o k2322 (rd_a k2319 (rd_o k2317 (rd_w k2283 (rd_w k2170 (rd_w k2163 (rd_w k2157 ef1833 rfl) rfl) rfl) rfl) rfl) rfl) rfl) rfl); have z10_ := congrArg Int32.toInt (rd_w k2328 (rd_o k2322 (rd_a k2319 (rd_o k2317 (rd_w k2283 (rd_w k2170 (rd_w k2163 (rd_w k2157 ef1834 rfl) rfl) rfl) rfl) rfl) rfl) rfl) rfl); have z_ := w_lits; have zl_ := l_lits; omega))))
                  · refine ev_aload_n rfl rfl rfl ?_
                    refine ev_getV (v := f1829) rfl rfl fl_X10_234 rfl rfl rfl (rd_w k2283 (rd_w k2170 (rd_w k2163 (rd_w k2157 ef1829 rfl) rfl) rfl) rfl) ?_
                    refine ev_iasK (j := 2) (n := 5) (l := 0) (u := 60) hJ2283 (by decide : B 2 2 2) (by decide) (by decide) (by decide) rfl bf1829 (by decide) (by decide) rfl rfl rfl rfl rfl (fun h2334 hJ2334 k2334 => ?_)
                    refine ev_aload_n rfl rfl rfl ?_
                    refine ev_getR (y := 77) rfl rfl fl_X10_63 rfl rfl rfl rfl ?_
                    refine ev_aload_n rfl rfl rfl ?_
                    refine ev_getV (v := 2) rfl rfl fl_X10_241 rfl rfl rfl (rd_a k2334 (rd_w k2283 (rd_w k2170 (rd_w k2163 (rd_w k2157 ef1830 rfl) rfl) rfl) rfl) rfl) ?_
                    refine ev_iload_n rfl rfl rfl ?_
                    have b2335 : B f1827 0 20 := ⟨(by have z0_ := congrArg Int32.toInt (rd_a k2334 (rd_w k2283 (rd_w k2170 (rd_w k2163 (rd_w k2157 z1824 rfl) rfl) rfl) rfl) rfl); have z1_ := congrArg Int32.toInt (rd_a k2334 (rd_w k2283 (rd_w k2170 ef2164 rfl) rfl) rfl); have z2_ := congrArg Int32.toInt (rd_a k2334 ef2284 rfl); have z3_ := congrArg Int32.toInt (rd_a k2334 (rd_w k2283 (rd_w k2170 ef2166 rfl) rfl) rfl); have z4_ := congrArg Int32.toInt (rd_a k2334 (rd_w k2283 (rd_w k2170 ef2167 rfl) rfl) rfl); have z5_ := congrArg Int32.toInt (rd_a k2334 (rd_w k2283 (rd_w k2170 (rd_w k2163 (rd_w k2157 ef1829 rfl) rfl) rfl) rfl) rfl); have z6_ := congrArg Int32.toInt (rd_a k2334 (rd_w k2283 (rd_w k2170 (rd_w k2163 (rd_w k2157 ef1830 rfl) rfl) rfl) rfl) rfl); have z7_ := congrArg Int32.toInt (rd_o k2334 (rd_w k2283 (rd_w k2170 (rd_w k2163 (rd_w k2157 ef1831 rfl) rfl) rfl) rfl) rfl); have z8_ := congrArg Int32.toInt (rd_o k2334 (rd_w k2283 (rd_w k2170 (rd_w k2163 (rd_w k2157 ef1832 rfl) rfl) rfl) rfl) rfl); have z9_ := congrArg Int32.toInt (rd_s k2334); have z10_ := congrArg Int32.toInt (rd_o k2334 (rd_w k2283 (rd_w k2170 (rd_w k2163 (rd_w k2157 ef1834 rfl) rfl) rfl) rfl) rfl); have z_ := w_lits; have zl_ := l_lits; omega), (by have z0_ := congrArg Int32.toInt (rd_a k2334 (rd_w k2283 (rd_w k2170 (rd_w k2163 (rd_w k2157 z1824 rfl) rfl) rfl) rfl) rfl); have z1_ := congrArg Int32.toInt (rd_a k2334 (rd_w k2283 (rd_w k2170 ef2164 rfl) rfl) rfl); have z2_ := congrArg Int32.toInt (rd_a k2334 ef2284 rfl); have z3_ := congrArg Int32.toInt (rd_a k2334 (rd_w k2283 (rd_w k2170 ef2166 rfl) rfl) rfl); have z4_ := congrArg Int32.toInt (rd_a k2334 (rd_w k2283 (rd_w k2170 ef2167 rfl) rfl) rfl); have z5_ := congrArg Int32.toInt (rd_a k2334 (rd_w k2283 (rd_w k2170 (rd_w k2163 (rd_w k2157 ef1829 rfl) rfl) rfl) rfl) rfl); have z6_ := congrArg Int32.toInt (rd_a k2334 (rd_w k2283 (rd_w k2170 (rd_w k2163 (rd_w k2157 ef1830 rfl) rfl) rfl) rfl) rfl); have z7_ := congrArg Int32.toInt (rd_o k2334 (rd_w k2283 (rd_w k2170 (rd_w k2163 (rd_w k2157 ef1831 rfl) rfl) rfl) rfl) rfl); have z8_ := congrArg Int32.toInt (rd_o k2334 (rd_w k2283 (rd_w k2170 (rd_w k2163 (rd_w k2157 ef1832 rfl) rfl) rfl) rfl) rfl); have z9_ := congrArg Int32.toInt (rd_s k2334); have z10_ := congrArg Int32.toInt (rd_o k2334 (rd_w k2283 (rd_w k2170 (rd_w k2163 (rd_w k2157 ef1834 rfl) rfl) rfl) rfl) rfl); have z_ := w_lits; have zl_ := l_lits; omega)⟩
                    refine ev_iasW (n := 5) (l := 0) (u := 20) hJ2334 (by decide : B 2 2 2) (by decide) (by decide) (fun _ => rfl) b2335 (by decide) (by decide) (fun _ => rfl) rfl rfl rfl rfl (fun h2336 hJ2336 k2336 => ?_)
                    refine ev_aload_n rfl rfl rfl ?_
                    refine ev_dup rfl rfl rfl ?_
                    refine ev_getV (v := 2) rfl rfl fl_X10_241 rfl rfl rfl (rd_a k2336 (rd_a k2334 (rd_w k2283 (rd_w k2170 (rd_w k2163 (rd_w k2157 ef1830 rfl) rfl) rfl) rfl) rfl) rfl) ?_
                    refine ev_iconst (v := 1) rfl rfl (by decide) ?_
                    refine ev_iaddB (l := 3) (u := 3) rfl rfl (by decide : B 2 2 2) (by decide : B 1 1 1) (by decide) (by decide) (by decide) (by decide) (fun v2337 b2337 e2337 g2337 => ?_)
                    have e2337x := e2337; rw [show (2 : Int32).toInt = 2 from by decide] at e2337x
                    have e2337xx := e2337x; rw [show (1 : Int32).toInt = 1 from by decide] at e2337xx
                    have b2338 : B v2337 0 4 := ⟨(by have z0_ := congrArg Int32.toInt (rd_a k2336 (rd_a k2334 (rd_w k2283 (rd_w k2170 (rd_w k2163 (rd_w k2157 z1824 rfl) rfl) rfl) rfl) rfl) rfl); have z1_ := congrArg Int32.toInt (rd_a k2336 (rd_a k2334 (rd_w k2283 (rd_w k2170 ef2164 rfl) rfl) rfl) rfl); have z2_ := congrArg Int32.toInt (rd_a k2336 (rd_a k2334 ef2284 rfl) rfl); have z3_ := congrArg Int32.toInt (rd_a k2336 (rd_a k2334 (rd_w k2283 (rd_w k2170 ef2166 rfl) rfl) rfl) rfl); have z4_ := congrArg Int32.toInt (rd_a k2336 (rd_a k2334 (rd_w k2283 (rd_w k2170 ef2167 rfl) rfl) rfl) rfl); have z5_ := congrArg Int32.toInt (rd_a k2336 (rd_a k2334 (rd_w k2283 (rd_w k2170 (rd_w k2163 (rd_w k2157 ef1829 rfl) rfl) rfl) rfl) rfl) rfl); have z6_ := congrArg Int32.toInt (rd_a k2336 (rd_a k2334 (rd_w k2283 (rd_w k2170 (rd_w k2163 (rd_w k2157 ef1830 rfl) rfl) rfl) rfl) rfl) rfl); have z7_ := congrArg Int32.toInt (rd_a k2336 (rd_o k2334 (rd_w k2283 (rd_w k2170 (rd_w k2163 (rd_w k2157 ef1831 rfl) rfl) rfl) rfl) rfl) rfl); have z8_ := congrArg Int32.toInt (rd_a k2336 (rd_o k2334 (rd_w k2283 (rd_w k2170 (rd_w k2163 (rd_w k2157 ef1832 rfl) rfl) rfl) rfl) rfl) rfl); have z9_ := congrArg Int32.toInt (rd_a k2336 (rd_s k2334) rfl); have z10_ := congrArg Int32.toInt (rd_a k2336 (rd_o k2334 (rd_w k2283 (rd_w k2170 (rd_w k2163 (rd_w k2157 ef1834 rfl) rfl) rfl) rfl) rfl) rfl); have z_ := w_lits; have zl_ := l_lits; omega), (by have z0_ := congrArg Int32.toInt (rd_a k2336 (rd_a k2334 (rd_w k2283 (rd_w k2170 (rd_w k2163 (rd_w k2157 z1824 rfl) rfl) rfl) rfl) rfl) rfl); have z1_ := congrArg Int32.toInt (rd_a k2336 (rd_a k2334 (rd_w k2283 (rd_w k2170 ef2164 rfl) rfl) rfl) rfl); have z2_ := congrArg Int32.toInt (rd_a k2336 (rd_a k2334 ef2284 rfl) rfl); have z3_ := congrArg Int32.toInt (rd_a k2336 (rd_a k2334 (rd_w k2283 (rd_w k2170 ef2166 rfl) rfl) rfl) rfl); have z4_ := congrArg Int32.toInt (rd_a k2336 (rd_a k2334 (rd_w k2283 (rd_w k2170 ef2167 rfl) rfl) rfl) rfl); have z5_ := congrArg Int32.toInt (rd_a k2336 (rd_a k2334 (rd_w k2283 (rd_w k2170 (rd_w k2163 (rd_w k2157 ef1829 rfl) rfl) rfl) rfl) rfl) rfl); have z6_ := congrArg Int32.toInt (rd_a k2336 (rd_a k2334 (rd_w k2283 (rd_w k2170 (rd_w k2163 (rd_w k2157 ef1830 rfl) rfl) rfl) rfl) rfl) rfl); have z7_ := congrArg Int32.toInt (rd_a k2336 (rd_o k2334 (rd_w k2283 (rd_w k2170 (rd_w k2163 (rd_w k2157 ef1831 rfl) rfl) rfl) rfl) rfl) rfl); have z8_ := congrArg Int32.toInt (rd_a k2336 (rd_o k2334 (rd_w k2283 (rd_w k2170 (rd_w k2163 (rd_w k2157 ef1832 rfl) rfl) rfl) rfl) rfl) rfl); have z9_ := congrArg Int32.toInt (rd_a k2336 (rd_s k2334) rfl); have z10_ := congrArg Int32.toInt (rd_a k2336 (rd_o k2334 (rd_w k2283 (rd_w k2170 (rd_w k2163 (rd_w k2157 ef1834 rfl) rfl) rfl) rfl) rfl) rfl); have z_ := w_lits; have zl_ := l_lits; omega)⟩
                    refine ev_putW (l := 0) (u := 4) hJ2336 rfl b2338 (by decide) (by decide) rfl rfl rfl fl_X10_241 rfl rfl rfl rfl rfl (fun h2339 hJ2339 k2339 => ?_)
                    refine ev_iconst (v := 1) rfl rfl (by decide) ?_
                    refine ev_istore_n rfl rfl rfl rfl ?_
                    dsimp only [List.set]
                    refine ev_aload_n rfl rfl rfl ?_
                    have z2340 := congrArg Int32.toInt (rd_o k2339 (rd_a k2336 (rd_a k2334 (rd_w k2283 (rd_w k2170 (rd_w k2163 (rd_w k2157 z1824 rfl) rfl) rfl) rfl) rfl) rfl) rfl)
                    have z2341 := congrArg Int32.toInt (rd_o k2339 (rd_a k2336 (rd_a k2334 (rd_w k2283 (rd_w k2170 ef2164 rfl) rfl) rfl) rfl) rfl)
                    have z2342 := congrArg Int32.toInt (rd_o k2339 (rd_a k2336 (rd_a k2334 ef2284 rfl) rfl) rfl)
                    have z2343 := congrArg Int32.toInt (rd_o k2339 (rd_a k2336 (rd_a k2334 (rd_w k2283 (rd_w k2170 ef2166 rfl) rfl) rfl) rfl) rfl)
                    have z2344 := congrArg Int32.toInt (rd_o k2339 (rd_a k2336 (rd_a k2334 (rd_w k2283 (rd_w k2170 ef2167 rfl) rfl) rfl) rfl) rfl)
                    refine ev_V0K hJ2339 rfl rfl rfl lk_X10_251 vt_X10_next rfl rfl rfl rfl rfl (w_X10_next_63 L b h2339 hJ2339.1 (by have z0_ := congrArg Int32.toInt (rd_o k2339 (rd_a k2336 (rd_a k2334 (rd_w k2283 (rd_w k2170 (rd_w k2163 (rd_w k2157 z1824 rfl) rfl) rfl) rfl) rfl) rfl) rfl); have z1_ := congrArg Int32.toInt (rd_o k2339 (rd_a k2336 (rd_a k2334 (rd_w k2283 (rd_w k2170 ef2164 rfl) rfl) rfl) rfl) rfl); have z_ := w_lits; have zl_ := l_lits; omega)) (fun h2345 hJ2345 k2345 m2345 => ?_)
                    obtain ⟨m2345_0, m2345_1, m2345_2, m2345_3, m2345_4⟩ := m2345
                    obtain ⟨f2346, ef2346⟩ : ∃ f_, h2345 63 17 = f_ := ⟨_, rfl⟩
                    have bf2346 : B f2346 0 160 := by have z_ := hJ2345.1 63 17; rw [ef2346] at z_; exact z_
                    have zf2346 := congrArg Int32.toInt ef2346
                    obtain ⟨f2347, ef2347⟩ : ∃ f_, h2345 63 21 = f_ := ⟨_, rfl⟩
                    have bf2347 : B f2347 0 6 := by have z_ := hJ2345.1 63 21; rw [ef2347] at z_; exact z_
                    have zf2347 := congrArg Int32.toInt ef2347
                    obtain ⟨f2348, ef2348⟩ : ∃ f_, h2345 63 20 = f_ := ⟨_, rfl⟩
                    have zf2348 := congrArg Int32.toInt ef2348
                    obtain ⟨f2349, ef2349⟩ : ∃ f_, h2345 63 19 = f_ := ⟨_, rfl⟩
                    have bf2349 : B f2349 0 3 := by have z_ := hJ2345.1 63 19; rw [ef2349] at z_; exact z_
                    have zf2349 := congrArg Int32.toInt ef2349
                    have z2350 := congrArg Int32.toInt (rd_w k2345 (rd_o k2339 (rd_a k2336 (rd_a k2334 (rd_w k2283 (rd_w k2170 (rd_w k2163 (rd_w k2157 z1824 rfl) rfl) rfl) rfl) rfl) rfl) rfl) rfl)
                    refine ev_goto rfl rfl ?_
                    exact (EvQ.drop 3 (ih19 1 w1819 h2345 ((by decide : B 1 1 1).mono (by decide) (by decide)) b1821 hJ2345 (rd_w k2345 (rd_o k2339 (rd_a k2336 (rd_a k2334 (rd_w k2283 (rd_w k2170 (rd_w k2163 (rd_w k2157 z1824 rfl) rfl) rfl) rfl) rfl) rfl) rfl) rfl) (by have z0_ := congrArg Int32.toInt (rd_w k2345 (rd_o k2339 (rd_a k2336 (rd_a k2334 (rd_w k2283 (rd_w k2170 (rd_w k2163 (rd_w k2157 ef1829 rfl) rfl) rfl) rfl) rfl) rfl) rfl) rfl); have z1_ := congrArg Int32.toInt (rd_w k2345 (rd_s k2339) rfl); have z2_ := congrArg Int32.toInt (rd_w k2345 (rd_o k2339 (rd_a k2336 (rd_o k2334 (rd_w k2283 (rd_w k2170 (rd_w k2163 (rd_w k2157 ef1831 rfl) rfl) rfl) rfl) rfl) rfl) rfl) rfl); have z_ := w_lits; have zl_ := l_lits; omega) (by have z0_ := congrArg Int32.toInt (rd_w k2345 (rd_o k2339 (rd_a k2336 (rd_a k2334 (rd_w k2283 (rd_w k2170 (rd_w k2163 (rd_w k2157 ef1829 rfl) rfl) rfl) rfl) rfl) rfl) rfl) rfl); have z1_ := congrArg Int32.toInt (rd_w k2345 (rd_s k2339) rfl); have z2_ := congrArg Int32.toInt (rd_w k2345 (rd_o k2339 (rd_a k2336 (rd_o k2334 (rd_w k2283 (rd_w k2170 (rd_w k2163 (rd_w k2157 ef1831 rfl) rfl) rfl) rfl) rfl) rfl) rfl) rfl); have z3_ := congrArg Int32.toInt (rd_w k2345 (rd_o k2339 (rd_a k2336 (rd_o k2334 (rd_w k2283 (rd_w k2170 (rd_w k2163 (rd_w k2157 ef1832 rfl) rfl) rfl) rfl) rfl) rfl) rfl) rfl); have z_ := w_lits; have zl_ := l_lits; omega) (by have z0_ := congrArg Int32.toInt (rd_w k2345 (rd_o k2339 (rd_a k2336 (rd_a k2334 (rd_w k2283 (rd_w k2170 (rd_w k2163 (rd_w k2157 ef1829 rfl) rfl) rfl) rfl) rfl) rfl) rfl) rfl); have z1_ := congrArg Int32.toInt (rd_w k2345 (rd_s k2339) rfl); have z2_ := congrArg Int32.toInt (rd_w k2345 (rd_o k2339 (rd_a k2336 (rd_o k2334 (rd_w k2283 (rd_w k2170 (rd_w k2163 (rd_w k2157 ef1832 rfl) rfl) rfl) rfl) rfl) rfl) rfl) rfl); have z3_ := congrArg Int32.toInt (rd_w k2345 (rd_o k2339 (rd_a k2336 (rd_s k2334) rfl) rfl) rfl); have z_ := w_lits; have zl_ := l_lits; omega) (by have z0_ := congrArg Int32.toInt (rd_w k2345 (rd_o k2339 (rd_a k2336 (rd_a k2334 (rd_w k2283 (rd_w k2170 (rd_w k2163 (rd_w k2157 ef1829 rfl) rfl) rfl) rfl) rfl) rfl) rfl) rfl); have z1_ := congrArg Int32.toInt (rd_w k2345 (rd_s k2339) rfl); have z2_ := congrArg Int32.toInt (rd_w k2345 (rd_o k2339 (rd_a k2336 (rd_s k2334) rfl) rfl) rfl); have z3_ := congrArg Int32.toInt (rd_w k2345 (rd_o k2339 (rd_a k2336 (rd_o k2334 (rd_w k2283 (rd_w k2170 (rd_w k2163 (rd_w k2157 ef1834 rfl) rfl) rfl) rfl) rfl) rfl) rfl) rfl); have z_ := w_lits; have zl_ := l_lits; omega) (by have z0_ := congrArg Int32.toInt (rd_w k2345 (rd_o k2339 (rd_a k2336 (rd_a k2334 (rd_w k2283 (rd_w k2170 (rd_w k2163 (rd_w k2157 z1824 rfl) rfl) rfl) rfl) rfl) rfl) rfl) rfl); have z1_ := congrArg Int32.toInt ef2346; have z_ := w_lits; have zl_ := l_lits; omega) (by have z0_ := congrArg Int32.toInt ef2347; have z1_ := congrArg Int32.toInt ef2348; have z2_ := congrArg Int32.toInt ef2349; have z_ := w_lits; have zl_ := l_lits; omega) (mM_dec hm19 (by have z0_ := congrArg Int32.toInt (rd_w k2345 (rd_o k2339 (rd_a k2336 (rd_a k2334 (rd_w k2283 (rd_w k2170 (rd_w k2163 (rd_w k2157 z1824 rfl) rfl) rfl) rfl) rfl) rfl) rfl) rfl); have z1_ := congrArg Int32.toInt ef2346; have z2_ := congrArg Int32.toInt ef2347; have z3_ := congrArg Int32.toInt ef2348; have z4_ := congrArg Int32.toInt ef2349; have z5_ := congrArg Int32.toInt (rd_w k2345 (rd_o k2339 (rd_a k2336 (rd_a k2334 (rd_w k2283 (rd_w k2170 (rd_w k2163 (rd_w k2157 ef1829 rfl) rfl) rfl) rfl) rfl) rfl) rfl) rfl); have z6_ := congrArg Int32.toInt (rd_w k2345 (rd_s k2339) rfl); have z7_ := congrArg Int32.toInt (rd_w k2345 (rd_o k2339 (rd_a k2336 (rd_o k2334 (rd_w k2283 (rd_w k2170 (rd_w k2163 (rd_w k2157 ef1831 rfl) rfl) rfl) rfl) rfl) rfl) rfl) rfl); have z8_ := congrArg Int32.toInt (rd_w k2345 (rd_o k2339 (rd_a k2336 (rd_o k2334 (rd_w k2283 (rd_w k2170 (rd_w k2163 (rd_w k2157 ef1832 rfl) rfl) rfl) rfl) rfl) rfl) rfl) rfl); have z9_ := congrArg Int32.toInt (rd_w k2345 (rd_o k2339 (rd_a k2336 (rd_s k2334) rfl) rfl) rfl); have z10_ := congrArg Int32.toInt (rd_w k2345 (rd_o k2339 (rd_a k2336 (rd_o k2334 (rd_w k2283 (rd_w k2170 (rd_w k2163 (rd_w k2157 ef1834 rfl) rfl) rfl) rfl) rfl) rfl) rfl) rfl); have z_ := w_lits; have zl_ := l_lits; omega) (by have z0_ := congrArg Int32.toInt (rd_w k2345 (rd_o k2339 (rd_a k2336 (rd_a k2334 (rd_w k2283 (rd_w k2170 (rd_w k2163 (rd_w k2157 z1824 rfl) rfl) rfl) rfl) rfl) rfl) rfl) rfl); have z1_ := congrArg Int32.toInt ef2346; have z2_ := congrArg Int32.toInt ef2347; have z3_ := congrArg Int32.toInt ef2348; have z4_ := congrArg Int32.toInt ef2349; have z5_ := congrArg Int32.toInt (rd_w k2345 (rd_o k2339 (rd_a k2336 (rd_a k2334 (rd_w k2283 (rd_w k2170 (rd_w k2163 (rd_w k2157 ef1829 rfl) rfl) rfl) rfl) rfl) rfl) rfl) rfl); have z6_ := congrArg Int32.toInt (rd_w k2345 (rd_s k2339) rfl); have z7_ := congrArg Int32.toInt (rd_w k2345 (rd_o k2339 (rd_a k2336 (rd_o k2334 (rd_w k2283 (rd_w k2170 (rd_w k2163 (rd_w k2157 ef1831 rfl) rfl) rfl) rfl) rfl) rfl) rfl) rfl); have z8_ := congrArg Int32.toInt (rd_w k2345 (rd_o k2339 (rd_a k2336 (rd_o k2334 (rd_w k2283 (rd_w k2170 (rd_w k2163 (rd_w k2157 ef1832 rfl) rfl) rfl) rfl) rfl) rfl) rfl) rfl); have z9_ := congrArg Int32.toInt (rd_w k2345 (rd_o k2339 (rd_a k2336 (rd_s k2334) rfl) rfl) rfl); have z10_ := congrArg Int32.toInt (rd_w k2345 (rd_o k2339 (rd_a k2336 (rd_o k2334 (rd_w k2283 (rd_w k2170 (rd_w k2163 (rd_w k2157 ef1834 rfl) rfl) rfl) rfl) rfl) rfl) rfl) rfl); have z_ := w_lits; have zl_ := l_lits; omega) (by have z0_ := congrArg Int32.toInt (rd_w k2345 (rd_o k2339 (rd_a k2336 (rd_a k2334 (rd_w k2283 (rd_w k2170 (rd_w k2163 (rd_w k2157 z1824 rfl) rfl) rfl) rfl) rfl) rfl) rfl) rfl); have z1_ := congrArg Int32.toInt ef2346; have z2_ := congrArg Int32.toInt ef2347; have z3_ := congrArg Int32.toInt ef2348; have z4_ := congrArg Int32.toInt ef2349; have z5_ := congrArg Int32.toInt (rd_w k2345 (rd_o k2339 (rd_a k2336 (rd_a k2334 (rd_w k2283 (rd_w k2170 (rd_w k2163 (rd_w k2157 ef1829 rfl) rfl) rfl) rfl) rfl) rfl) rfl) rfl); have z6_ := congrArg Int32.toInt (rd_w k2345 (rd_s k2339) rfl); have z7_ := congrArg Int32.toInt (rd_w k2345 (rd_o k2339 (rd_a k2336 (rd_o k2334 (rd_w k2283 (rd_w k2170 (rd_w k2163 (rd_w k2157 ef1831 rfl) rfl) rfl) rfl) rfl) rfl) rfl) rfl); have z8_ := congrArg Int32.toInt (rd_w k2345 (rd_o k2339 (rd_a k2336 (rd_o k2334 (rd_w k2283 (rd_w k2170 (rd_w k2163 (rd_w k2157 ef1832 rfl) rfl) rfl) rfl) rfl) rfl) rfl) rfl); have z9_ := congrArg Int32.toInt (rd_w k2345 (rd_o k2339 (rd_a k2336 (rd_s k2334) rfl) rfl) rfl); have z10_ := congrArg Int32.toInt (rd_w k2345 (rd_o k2339 (rd_a k2336 (rd_o k2334 (rd_w k2283 (rd_w k2170 (rd_w k2163 (rd_w k2157 ef1834 rfl) rfl) rfl) rfl) rfl) rfl) rfl) rfl); have z_ := w_lits; have zl_ := l_lits; omega))))
                  · refine ev_aload_n rfl rfl rfl ?_
                    refine ev_getV (v := f1829) rfl rfl fl_X10_234 rfl rfl rfl (rd_w k2283 (rd_w k2170 (rd_w k2163 (rd_w k2157 ef1829 rfl) rfl) rfl) rfl) ?_
                    refine ev_iasK (j := 3) (n := 5) (l := 0) (u := 60) hJ2283 (by decide : B 3 3 3) (by decide) (by decide) (by decide) rfl bf1829 (by decide) (by decide) rfl rfl rfl rfl rfl (fun h2351 hJ2351 k2351 => ?_)
                    refine ev_aload_n rfl rfl rfl ?_
                    refine ev_getR (y := 77) rfl rfl fl_X10_63 rfl rfl rfl rfl ?_
                    refine ev_aload_n rfl rfl rfl ?_
                    refine ev_getV (v := 3) rfl rfl fl_X10_241 rfl rfl rfl (rd_a k2351 (rd_w k2283 (rd_w k2170 (rd_w k2163 (rd_w k2157 ef1830 rfl) rfl) rfl) rfl) rfl) ?_
                    refine ev_iload_n rfl rfl rfl ?_
                    have b2352 : B f1827 0 20 := ⟨(by have z0_ := congrArg Int32.toInt (rd_a k2351 (rd_w k2283 (rd_w k2170 (rd_w k2163 (rd_w k2157 z1824 rfl) rfl) rfl) rfl) rfl); have z1_ := congrArg Int32.toInt (rd_a k2351 (rd_w k2283 (rd_w k2170 ef2164 rfl) rfl) rfl); have z2_ := congrArg Int32.toInt (rd_a k2351 ef2284 rfl); have z3_ := congrArg Int32.toInt (rd_a k2351 (rd_w k2283 (rd_w k2170 ef2166 rfl) rfl) rfl); have z4_ := congrArg Int32.toInt (rd_a k2351 (rd_w k2283 (rd_w k2170 ef2167 rfl) rfl) rfl); have z5_ := congrArg Int32.toInt (rd_a k2351 (rd_w k2283 (rd_w k2170 (rd_w k2163 (rd_w k2157 ef1829 rfl) rfl) rfl) rfl) rfl); have z6_ := congrArg Int32.toInt (rd_a k2351 (rd_w k2283 (rd_w k2170 (rd_w k2163 (rd_w k2157 ef1830 rfl) rfl) rfl) rfl) rfl); have z7_ := congrArg Int32.toInt (rd_o k2351 (rd_w k2283 (rd_w k2170 (rd_w k2163 (rd_w k2157 ef1831 rfl) rfl) rfl) rfl) rfl); have z8_ := congrArg Int32.toInt (rd_o k2351 (rd_w k2283 (rd_w k2170 (rd_w k2163 (rd_w k2157 ef1832 rfl) rfl) rfl) rfl) rfl); have z9_ := congrArg Int32.toInt (rd_o k2351 (rd_w k2283 (rd_w k2170 (rd_w k2163 (rd_w k2157 ef1833 rfl) rfl) rfl) rfl) rfl); have z10_ := congrArg Int32.toInt (rd_s k2351); have z_ := w_lits; have zl_ := l_lits; omega), (by have z0_ := congrArg Int32.toInt (rd_a k2351 (rd_w k2283 (rd_w k2170 (rd_w k2163 (rd_w k2157 z1824 rfl) rfl) rfl) rfl) rfl); have z1_ := congrArg Int32.toInt (rd_a k2351 (rd_w k2283 (rd_w k2170 ef2164 rfl) rfl) rfl); have z2_ := congrArg Int32.toInt (rd_a k2351 ef2284 rfl); have z3_ := congrArg Int32.toInt (rd_a k2351 (rd_w k2283 (rd_w k2170 ef2166 rfl) rfl) rfl); have z4_ := congrArg Int32.toInt (rd_a k2351 (rd_w k2283 (rd_w k2170 ef2167 rfl) rfl) rfl); have z5_ := congrArg Int32.toInt (rd_a k2351 (rd_w k2283 (rd_w k2170 (rd_w k2163 (rd_w k2157 ef1829 rfl) rfl) rfl) rfl) rfl); have z6_ := congrArg Int32.toInt (rd_a k2351 (rd_w k2283 (rd_w k2170 (rd_w k2163 (rd_w k2157 ef1830 rfl) rfl) rfl) rfl) rfl); have z7_ := congrArg Int32.toInt (rd_o k2351 (rd_w k2283 (rd_w k2170 (rd_w k2163 (rd_w k2157 ef1831 rfl) rfl) rfl) rfl) rfl); have z8_ := congrArg Int32.toInt (rd_o k2351 (rd_w k2283 (rd_w k2170 (rd_w k2163 (rd_w k2157 ef1832 rfl) rfl) rfl) rfl) rfl); have z9_ := congrArg Int32.toInt (rd_o k2351 (rd_w k2283 (rd_w k2170 (rd_w k2163 (rd_w k2157 ef1833 rfl) rfl) rfl) rfl) rfl); have z10_ := congrArg Int32.toInt (rd_s k2351); have z_ := w_lits; have zl_ := l_lits; omega)⟩
                    refine ev_iasW (n := 5) (l := 0) (u := 20) hJ2351 (by decide : B 3 3 3) (by decide) (by decide) (fun _ => rfl) b2352 (by decide) (by decide) (fun _ => rfl) rfl rfl rfl rfl (fun h2353 hJ2353 k2353 => ?_)
                    refine ev_aload_n rfl rfl rfl ?_
                    refine ev_dup rfl rfl rfl ?_
                    refine ev_getV (v := 3) rfl rfl fl_X10_241 rfl rfl rfl (rd_a k2353 (rd_a k2351 (rd_w k2283 (rd_w k2170 (rd_w k2163 (rd_w k2157 ef1830 rfl) rfl) rfl) rfl) rfl) rfl) ?_
                    refine ev_iconst (v := 1) rfl rfl (by decide) ?_
                    refine ev_iaddB (l := 4) (u := 4) rfl rfl (by decide : B 3 3 3) (by decide : B 1 1 1) (by decide) (by decide) (by decide) (by decide) (fun v2354 b2354 e2354 g2354 => ?_)
                    have e2354x := e2354; rw [show (3 : Int32).toInt = 3 from by decide] at e2354x
                    have e2354xx := e2354x; rw [show (1 : Int32).toInt = 1 from by decide] at e2354xx
                    have b2355 : B v2354 0 4 := ⟨(by have z0_ := congrArg Int32.toInt (rd_a k2353 (rd_a k2351 (rd_w k2283 (rd_w k2170 (rd_w k2163 (rd_w k2157 z1824 rfl) rfl) rfl) rfl) rfl) rfl); have z1_ := congrArg Int32.toInt (rd_a k2353 (rd_a k2351 (rd_w k2283 (rd_w k2170 ef2164 rfl) rfl) rfl) rfl); have z2_ := congrArg Int32.toInt (rd_a k2353 (rd_a k2351 ef2284 rfl) rfl); have z3_ := congrArg Int32.toInt (rd_a k2353 (rd_a k2351 (rd_w k2283 (rd_w k2170 ef2166 rfl) rfl) rfl) rfl); have z4_ := congrArg Int32.toInt (rd_a k2353 (rd_a k2351 (rd_w k2283 (rd_w k2170 ef2167 rfl) rfl) rfl) rfl); have z5_ := congrArg Int32.toInt (rd_a k2353 (rd_a k2351 (rd_w k2283 (rd_w k2170 (rd_w k2163 (rd_w k2157 ef1829 rfl) rfl) rfl) rfl) rfl) rfl); have z6_ := congrArg Int32.toInt (rd_a k2353 (rd_a k2351 (rd_w k2283 (rd_w k2170 (rd_w k2163 (rd_w k2157 ef1830 rfl) rfl) rfl) rfl) rfl) rfl); have z7_ := congrArg Int32.toInt (rd_a k2353 (rd_o k2351 (rd_w k2283 (rd_w k2170 (rd_w k2163 (rd_w k2157 ef1831 rfl) rfl) rfl) rfl) rfl) rfl); have z8_ := congrArg Int32.toInt (rd_a k2353 (rd_o k2351 (rd_w k2283 (rd_w k2170 (rd_w k2163 (rd_w k2157 ef1832 rfl) rfl) rfl) rfl) rfl) rfl); have z9_ := congrArg Int32.toInt (rd_a k2353 (rd_o k2351 (rd_w k2283 (rd_w k2170 (rd_w k2163 (rd_w k2157 ef1833 rfl) rfl) rfl) rfl) rfl) rfl); have z10_ := congrArg Int32.toInt (rd_a k2353 (rd_s k2351) rfl); have z_ := w_lits; have zl_ := l_lits; omega), (by have z0_ := congrArg Int32.toInt (rd_a k2353 (rd_a k2351 (rd_w k2283 (rd_w k2170 (rd_w k2163 (rd_w k2157 z1824 rfl) rfl) rfl) rfl) rfl) rfl); have z1_ := congrArg Int32.toInt (rd_a k2353 (rd_a k2351 (rd_w k2283 (rd_w k2170 ef2164 rfl) rfl) rfl) rfl); have z2_ := congrArg Int32.toInt (rd_a k2353 (rd_a k2351 ef2284 rfl) rfl); have z3_ := congrArg Int32.toInt (rd_a k2353 (rd_a k2351 (rd_w k2283 (rd_w k2170 ef2166 rfl) rfl) rfl) rfl); have z4_ := congrArg Int32.toInt (rd_a k2353 (rd_a k2351 (rd_w k2283 (rd_w k2170 ef2167 rfl) rfl) rfl) rfl); have z5_ := congrArg Int32.toInt (rd_a k2353 (rd_a k2351 (rd_w k2283 (rd_w k2170 (rd_w k2163 (rd_w k2157 ef1829 rfl) rfl) rfl) rfl) rfl) rfl); have z6_ := congrArg Int32.toInt (rd_a k2353 (rd_a k2351 (rd_w k2283 (rd_w k2170 (rd_w k2163 (rd_w k2157 ef1830 rfl) rfl) rfl) rfl) rfl) rfl); have z7_ := congrArg Int32.toInt (rd_a k2353 (rd_o k2351 (rd_w k2283 (rd_w k2170 (rd_w k2163 (rd_w k2157 ef1831 rfl) rfl) rfl) rfl) rfl) rfl); have z8_ := congrArg Int32.toInt (rd_a k2353 (rd_o k2351 (rd_w k2283 (rd_w k2170 (rd_w k2163 (rd_w k2157 ef1832 rfl) rfl) rfl) rfl) rfl) rfl); have z9_ := congrArg Int32.toInt (rd_a k2353 (rd_o k2351 (rd_w k2283 (rd_w k2170 (rd_w k2163 (rd_w k2157 ef1833 rfl) rfl) rfl) rfl) rfl) rfl); have z10_ := congrArg Int32.toInt (rd_a k2353 (rd_s k2351) rfl); have z_ := w_lits; have zl_ := l_lits; omega)⟩
                    refine ev_putW (l := 0) (u := 4) hJ2353 rfl b2355 (by decide) (by decide) rfl rfl rfl fl_X10_241 rfl rfl rfl rfl rfl (fun h2356 hJ2356 k2356 => ?_)
                    refine ev_iconst (v := 1) rfl rfl (by decide) ?_
                    refine ev_istore_n rfl rfl rfl rfl ?_
                    dsimp only [List.set]
                    refine ev_aload_n rfl rfl rfl ?_
                    have z2357 := congrArg Int32.toInt (rd_o k2356 (rd_a k2353 (rd_a k2351 (rd_w k2283 (rd_w k2170 (rd_w k2163 (rd_w k2157 z1824 rfl) rfl) rfl) rfl) rfl) rfl) rfl)
                    have z2358 := congrArg Int32.toInt (rd_o k2356 (rd_a k2353 (rd_a k2351 (rd_w k2283 (rd_w k2170 ef2164 rfl) rfl) rfl) rfl) rfl)
                    have z2359 := congrArg Int32.toInt (rd_o k2356 (rd_a k2353 (rd_a k2351 ef2284 rfl) rfl) rfl)
                    have z2360 := congrArg Int32.toInt (rd_o k2356 (rd_a k2353 (rd_a k2351 (rd_w k2283 (rd_w k2170 ef2166 rfl) rfl) rfl) rfl) rfl)
                    have z2361 := congrArg Int32.toInt (rd_o k2356 (rd_a k2353 (rd_a k2351 (rd_w k2283 (rd_w k2170 ef2167 rfl) rfl) rfl) rfl) rfl)
                    refine ev_V0K hJ2356 rfl rfl rfl lk_X10_251 vt_X10_next rfl rfl rfl rfl rfl (w_X10_next_63 L b h2356 hJ2356.1 (by have z0_ := congrArg Int32.toInt (rd_o k2356 (rd_a k2353 (rd_a k2351 (rd_w k2283 (rd_w k2170 (rd_w k2163 (rd_w k2157 z1824 rfl) rfl) rfl) rfl) rfl) rfl) rfl); have z1_ := congrArg Int32.toInt (rd_o k2356 (rd_a k2353 (rd_a k2351 (rd_w k2283 (rd_w k2170 ef2164 rfl) rfl) rfl) rfl) rfl); have z_ := w_lits; have zl_ := l_lits; omega)) (fun h2362 hJ2362 k2362 m2362 => ?_)
                    obtain ⟨m2362_0, m2362_1, m2362_2, m2362_3, m2362_4⟩ := m2362
                    obtain ⟨f2363, ef2363⟩ : ∃ f_, h2362 63 17 = f_ := ⟨_, rfl⟩
                    have bf2363 : B f2363 0 160 := by have z_ := hJ2362.1 63 17; rw [ef2363] at z_; exact z_
                    have zf2363 := congrArg Int32.toInt ef2363
                    obtain ⟨f2364, ef2364⟩ : ∃ f_, h2362 63 21 = f_ := ⟨_, rfl⟩
                    have bf2364 : B f2364 0 6 := by have z_ := hJ2362.1 63 21; rw [ef2364] at z_; exact z_
                    have zf2364 := congrArg Int32.toInt ef2364
                    obtain ⟨f2365, ef2365⟩ : ∃ f_, h2362 63 20 = f_ := ⟨_, rfl⟩
                    have zf2365 := congrArg Int32.toInt ef2365
                    obtain ⟨f2366, ef2366⟩ : ∃ f_, h2362 63 19 = f_ := ⟨_, rfl⟩
                    have bf2366 : B f2366 0 3 := by have z_ := hJ2362.1 63 19; rw [ef2366] at z_; exact z_
                    have zf2366 := congrArg Int32.toInt ef2366
                    have z2367 := congrArg Int32.toInt (rd_w k2362 (rd_o k2356 (rd_a k2353 (rd_a k2351 (rd_w k2283 (rd_w k2170 (rd_w k2163 (rd_w k2157 z1824 rfl) rfl) rfl) rfl) rfl) rfl) rfl) rfl)
                    refine ev_goto rfl rfl ?_
                    exact (EvQ.drop 3 (ih19 1 w1819 h2362 ((by decide : B 1 1 1).mono (by decide) (by decide)) b1821 hJ2362 (rd_w k2362 (rd_o k2356 (rd_a k2353 (rd_a k2351 (rd_w k2283 (rd_w k2170 (rd_w k2163 (rd_w k2157 z1824 rfl) rfl) rfl) rfl) rfl) rfl) rfl) rfl) (by have z0_ := congrArg Int32.toInt (rd_w k2362 (rd_o k2356 (rd_a k2353 (rd_a k2351 (rd_w k2283 (rd_w k2170 (rd_w k2163 (rd_w k2157 ef1829 rfl) rfl) rfl) rfl) rfl) rfl) rfl) rfl); have z1_ := congrArg Int32.toInt (rd_w k2362 (rd_s k2356) rfl); have z2_ := congrArg Int32.toInt (rd_w k2362 (rd_o k2356 (rd_a k2353 (rd_o k2351 (rd_w k2283 (rd_w k2170 (rd_w k2163 (rd_w k2157 ef1831 rfl) rfl) rfl) rfl) rfl) rfl) rfl) rfl); have z_ := w_lits; have zl_ := l_lits; omega) (by have z0_ := congrArg Int32.toInt (rd_w k2362 (rd_o k2356 (rd_a k2353 (rd_a k2351 (rd_w k2283 (rd_w k2170 (rd_w k2163 (rd_w k2157 ef1829 rfl) rfl) rfl) rfl) rfl) rfl) rfl) rfl); have z1_ := congrArg Int32.toInt (rd_w k2362 (rd_s k2356) rfl); have z2_ := congrArg Int32.toInt (rd_w k2362 (rd_o k2356 (rd_a k2353 (rd_o k2351 (rd_w k2283 (rd_w k2170 (rd_w k2163 (rd_w k2157 ef1831 rfl) rfl) rfl) rfl) rfl) rfl) rfl) rfl); have z3_ := congrArg Int32.toInt (rd_w k2362 (rd_o k2356 (rd_a k2353 (rd_o k2351 (rd_w k2283 (rd_w k2170 (rd_w k2163 (rd_w k2157 ef1832 rfl) rfl) rfl) rfl) rfl) rfl) rfl) rfl); have z_ := w_lits; have zl_ := l_lits; omega) (by have z0_ := congrArg Int32.toInt (rd_w k2362 (rd_o k2356 (rd_a k2353 (rd_a k2351 (rd_w k2283 (rd_w k2170 (rd_w k2163 (rd_w k2157 ef1829 rfl) rfl) rfl) rfl) rfl) rfl) rfl) rfl); have z1_ := congrArg Int32.toInt (rd_w k2362 (rd_s k2356) rfl); have z2_ := congrArg Int32.toInt (rd_w k2362 (rd_o k2356 (rd_a k2353 (rd_o k2351 (rd_w k2283 (rd_w k2170 (rd_w k2163 (rd_w k2157 ef1832 rfl) rfl) rfl) rfl) rfl) rfl) rfl) rfl); have z3_ := congrArg Int32.toInt (rd_w k2362 (rd_o k2356 (rd_a k2353 (rd_o k2351 (rd_w k2283 (rd_w k2170 (rd_w k2163 (rd_w k2157 ef1833 rfl) rfl) rfl) rfl) rfl) rfl) rfl) rfl); have z_ := w_lits; have zl_ := l_lits; omega) (by have z0_ := congrArg Int32.toInt (rd_w k2362 (rd_o k2356 (rd_a k2353 (rd_a k2351 (rd_w k2283 (rd_w k2170 (rd_w k2163 (rd_w k2157 ef1829 rfl) rfl) rfl) rfl) rfl) rfl) rfl) rfl); have z1_ := congrArg Int32.toInt (rd_w k2362 (rd_s k2356) rfl); have z2_ := congrArg Int32.toInt (rd_w k2362 (rd_o k2356 (rd_a k2353 (rd_o k2351 (rd_w k2283 (rd_w k2170 (rd_w k2163 (rd_w k2157 ef1833 rfl) rfl) rfl) rfl) rfl) rfl) rfl) rfl); have z3_ := congrArg Int32.toInt (rd_w k2362 (rd_o k2356 (rd_a k2353 (rd_s k2351) rfl) rfl) rfl); have z_ := w_lits; have zl_ := l_lits; omega) (by have z0_ := congrArg Int32.toInt (rd_w k2362 (rd_o k2356 (rd_a k2353 (rd_a k2351 (rd_w k2283 (rd_w k2170 (rd_w k2163 (rd_w k2157 z1824 rfl) rfl) rfl) rfl) rfl) rfl) rfl) rfl); have z1_ := congrArg Int32.toInt ef2363; have z_ := w_lits; have zl_ := l_lits; omega) (by have z0_ := congrArg Int32.toInt ef2364; have z1_ := congrArg Int32.toInt ef2365; have z2_ := congrArg Int32.toInt ef2366; have z_ := w_lits; have zl_ := l_lits; omega) (mM_dec hm19 (by have z0_ := congrArg Int32.toInt (rd_w k2362 (rd_o k2356 (rd_a k2353 (rd_a k2351 (rd_w k2283 (rd_w k2170 (rd_w k2163 (rd_w k2157 z1824 rfl) rfl) rfl) rfl) rfl) rfl) rfl) rfl); have z1_ := congrArg Int32.toInt ef2363; have z2_ := congrArg Int32.toInt ef2364; have z3_ := congrArg Int32.toInt ef2365; have z4_ := congrArg Int32.toInt ef2366; have z5_ := congrArg Int32.toInt (rd_w k2362 (rd_o k2356 (rd_a k2353 (rd_a k2351 (rd_w k2283 (rd_w k2170 (rd_w k2163 (rd_w k2157 ef1829 rfl) rfl) rfl) rfl) rfl) rfl) rfl) rfl); have z6_ := congrArg Int32.toInt (rd_w k2362 (rd_s k2356) rfl); have z7_ := congrArg Int32.toInt (rd_w k2362 (rd_o k2356 (rd_a k2353 (rd_o k2351 (rd_w k2283 (rd_w k2170 (rd_w k2163 (rd_w k2157 ef1831 rfl) rfl) rfl) rfl) rfl) rfl) rfl) rfl); have z8_ := congrArg Int32.toInt (rd_w k2362 (rd_o k2356 (rd_a k2353 (rd_o k2351 (rd_w k2283 (rd_w k2170 (rd_w k2163 (rd_w k2157 ef1832 rfl) rfl) rfl) rfl) rfl) rfl) rfl) rfl); have z9_ := congrArg Int32.toInt (rd_w k2362 (rd_o k2356 (rd_a k2353 (rd_o k2351 (rd_w k2283 (rd_w k2170 (rd_w k2163 (rd_w k2157 ef1833 rfl) rfl) rfl) rfl) rfl) rfl) rfl) rfl); have z10_ := congrArg Int32.toInt (rd_w k2362 (rd_o k2356 (rd_a k2353 (rd_s k2351) rfl) rfl) rfl); have z_ := w_lits; have zl_ := l_lits; omega) (by have z0_ := congrArg Int32.toInt (rd_w k2362 (rd_o k2356 (rd_a k2353 (rd_a k2351 (rd_w k2283 (rd_w k2170 (rd_w k2163 (rd_w k2157 z1824 rfl) rfl) rfl) rfl) rfl) rfl) rfl) rfl); have z1_ := congrArg Int32.toInt ef2363; have z2_ := congrArg Int32.toInt ef2364; have z3_ := congrArg Int32.toInt ef2365; have z4_ := congrArg Int32.toInt ef2366; have z5_ := congrArg Int32.toInt (rd_w k2362 (rd_o k2356 (rd_a k2353 (rd_a k2351 (rd_w k2283 (rd_w k2170 (rd_w k2163 (rd_w k2157 ef1829 rfl) rfl) rfl) rfl) rfl) rfl) rfl) rfl); have z6_ := congrArg Int32.toInt (rd_w k2362 (rd_s k2356) rfl); have z7_ := congrArg Int32.toInt (rd_w k2362 (rd_o k2356 (rd_a k2353 (rd_o k2351 (rd_w k2283 (rd_w k2170 (rd_w k2163 (rd_w k2157 ef1831 rfl) rfl) rfl) rfl) rfl) rfl) rfl) rfl); have z8_ := congrArg Int32.toInt (rd_w k2362 (rd_o k2356 (rd_a k2353 (rd_o k2351 (rd_w k2283 (rd_w k2170 (rd_w k2163 (rd_w k2157 ef1832 rfl) rfl) rfl) rfl) rfl) rfl) rfl) rfl); have z9_ := congrArg Int32.toInt (rd_w k2362 (rd_o k2356 (rd_a k2353 (rd_o k2351 (rd_w k2283 (rd_w k2170 (rd_w k2163 (rd_w k2157 ef1833 rfl) rfl) rfl) rfl) rfl) rfl) rfl) rfl); have z10_ := congrArg Int32.toInt (rd_w k2362 (rd_o k2356 (rd_a k2353 (rd_s k2351) rfl) rfl) rfl); have z_ := w_lits; have zl_ := l_lits; omega) (by have z0_ := congrArg Int32.toInt (rd_w k2362 (rd_o k2356 (rd_a k2353 (rd_a k2351 (rd_w k2283 (rd_w k2170 (rd_w k2163 (rd_w k2157 z1824 rfl) rfl) rfl) rfl) rfl) rfl) rfl) rfl); have z1_ := congrArg Int32.toInt ef2363; have z2_ := congrArg Int32.toInt ef2364; have z3_ := congrArg Int32.toInt ef2365; have z4_ := congrArg Int32.toInt ef2366; have z5_ := congrArg Int32.toInt (rd_w k2362 (rd_o k2356 (rd_a k2353 (rd_a k2351 (rd_w k2283 (rd_w k2170 (rd_w k2163 (rd_w k2157 ef1829 rfl) rfl) rfl) rfl) rfl) rfl) rfl) rfl); have z6_ := congrArg Int32.toInt (rd_w k2362 (rd_s k2356) rfl); have z7_ := congrArg Int32.toInt (rd_w k2362 (rd_o k2356 (rd_a k2353 (rd_o k2351 (rd_w k2283 (rd_w k2170 (rd_w k2163 (rd_w k2157 ef1831 rfl) rfl) rfl) rfl) rfl) rfl) rfl) rfl); have z8_ := congrArg Int32.toInt (rd_w k2362 (rd_o k2356 (rd_a k2353 (rd_o k2351 (rd_w k2283 (rd_w k2170 (rd_w k2163 (rd_w k2157 ef1832 rfl) rfl) rfl) rfl) rfl) rfl) rfl) rfl); have z9_ := congrArg Int32.toInt (rd_w k2362 (rd_o k2356 (rd_a k2353 (rd_o k2351 (rd_w k2283 (rd_w k2170 (rd_w k2163 (rd_w k2157 ef1833 rfl) rfl) rfl) rfl) rfl) rfl) rfl) rfl); have z10_ := congrArg Int32.toInt (rd_w k2362 (rd_o k2356 (rd_a k2353 (rd_s k2351) rfl) rfl) rfl); have z_ := w_lits; have zl_ := l_lits; omega))))
                  · refine ev_aload_n rfl rfl rfl ?_
                    refine ev_getV (v := f1829) rfl rfl fl_X10_234 rfl rfl rfl (rd_w k2283 (rd_w k2170 (rd_w k2163 (rd_w k2157 ef1829 rfl) rfl) rfl) rfl) ?_
                    refine ev_iasW (n := 5) (l := 0) (u := 60) hJ2283 (by decide : B 4 4 4) (by decide) (by decide) (fun _ => rfl) bf1829 (by decide) (by decide) (fun _ => rfl) rfl rfl rfl rfl (fun h2368 hJ2368 k2368 => ?_)
                    obtain ⟨f2369, ef2369⟩ : ∃ f_, h2368 76 0 = f_ := ⟨_, rfl⟩
                    have bf2369 : B f2369 0 60 := by have z_ := hJ2368.1 76 0; rw [ef2369] at z_; exact z_
                    have zf2369 := congrArg Int32.toInt ef2369
                    obtain ⟨f2370, ef2370⟩ : ∃ f_, h2368 76 1 = f_ := ⟨_, rfl⟩
                    have bf2370 : B f2370 0 60 := by have z_ := hJ2368.1 76 1; rw [ef2370] at z_; exact z_
                    have zf2370 := congrArg Int32.toInt ef2370
                    obtain ⟨f2371, ef2371⟩ : ∃ f_, h2368 76 2 = f_ := ⟨_, rfl⟩
                    have bf2371 : B f2371 0 60 := by have z_ := hJ2368.1 76 2; rw [ef2371] at z_; exact z_
                    have zf2371 := congrArg Int32.toInt ef2371
                    obtain ⟨f2372, ef2372⟩ : ∃ f_, h2368 76 3 = f_ := ⟨_, rfl⟩
                    have bf2372 : B f2372 0 60 := by have z_ := hJ2368.1 76 3; rw [ef2372] at z_; exact z_
                    have zf2372 := congrArg Int32.toInt ef2372
                    refine ev_aload_n rfl rfl rfl ?_
                    refine ev_getR (y := 77) rfl rfl fl_X10_63 rfl rfl rfl rfl ?_
                    refine ev_aload_n rfl rfl rfl ?_
                    refine ev_getV (v := 4) rfl rfl fl_X10_241 rfl rfl rfl (rd_a k2368 (rd_w k2283 (rd_w k2170 (rd_w k2163 (rd_w k2157 ef1830 rfl) rfl) rfl) rfl) rfl) ?_
                    refine ev_iload_n rfl rfl rfl ?_
                    have b2373 : B f1827 0 20 := ⟨(by have z0_ := congrArg Int32.toInt (rd_a k2368 (rd_w k2283 (rd_w k2170 (rd_w k2163 (rd_w k2157 z1824 rfl) rfl) rfl) rfl) rfl); have z1_ := congrArg Int32.toInt (rd_a k2368 (rd_w k2283 (rd_w k2170 ef2164 rfl) rfl) rfl); have z2_ := congrArg Int32.toInt (rd_a k2368 ef2284 rfl); have z3_ := congrArg Int32.toInt (rd_a k2368 (rd_w k2283 (rd_w k2170 ef2166 rfl) rfl) rfl); have z4_ := congrArg Int32.toInt (rd_a k2368 (rd_w k2283 (rd_w k2170 ef2167 rfl) rfl) rfl); have z5_ := congrArg Int32.toInt (rd_a k2368 (rd_w k2283 (rd_w k2170 (rd_w k2163 (rd_w k2157 ef1829 rfl) rfl) rfl) rfl) rfl); have z6_ := congrArg Int32.toInt (rd_a k2368 (rd_w k2283 (rd_w k2170 (rd_w k2163 (rd_w k2157 ef1830 rfl) rfl) rfl) rfl) rfl); have z7_ := congrArg Int32.toInt ef2369; have z8_ := congrArg Int32.toInt ef2370; have z9_ := congrArg Int32.toInt ef2371; have z10_ := congrArg Int32.toInt ef2372; have z_ := w_lits; have zl_ := l_lits; omega), (by have z0_ := congrArg Int32.toInt (rd_a k2368 (rd_w k2283 (rd_w k2170 (rd_w k2163 (rd_w k2157 z1824 rfl) rfl) rfl) rfl) rfl); have z1_ := congrArg Int32.toInt (rd_a k2368 (rd_w k2283 (rd_w k2170 ef2164 rfl) rfl) rfl); have z2_ := congrArg Int32.toInt (rd_a k2368 ef2284 rfl); have z3_ := congrArg Int32.toInt (rd_a k2368 (rd_w k2283 (rd_w k2170 ef2166 rfl) rfl) rfl); have z4_ := congrArg Int32.toInt (rd_a k2368 (rd_w k2283 (rd_w k2170 ef2167 rfl) rfl) rfl); have z5_ := congrArg Int32.toInt (rd_a k2368 (rd_w k2283 (rd_w k2170 (rd_w k2163 (rd_w k2157 ef1829 rfl) rfl) rfl) rfl) rfl); have z6_ := congrArg Int32.toInt (rd_a k2368 (rd_w k2283 (rd_w k2170 (rd_w k2163 (rd_w k2157 ef1830 rfl) rfl) rfl) rfl) rfl); have z7_ := congrArg Int32.toInt ef2369; have z8_ := congrArg Int32.toInt ef2370; have z9_ := congrArg Int32.toInt ef2371; have z10_ := congrArg Int32.toInt ef2372; have z_ := w_lits; have zl_ := l_lits; omega)⟩
                    refine ev_iasW (n := 5) (l := 0) (u := 20) hJ2368 (by decide : B 4 4 4) (by decide) (by decide) (fun _ => rfl) b2373 (by decide) (by decide) (fun _ => rfl) rfl rfl rfl rfl (fun h2374 hJ2374 k2374 => ?_)
                    refine ev_aload_n rfl rfl rfl ?_
                    refine ev_dup rfl rfl rfl ?_
                    refine ev_getV (v := 4) rfl rfl fl_X10_241 rfl rfl rfl (rd_a k2374 (rd_a k2368 (rd_w k2283 (rd_w k2170 (rd_w k2163 (rd_w k2157 ef1830 rfl) rfl) rfl) rfl) rfl) rfl) ?_
                    refine ev_iconst (v := 1) rfl rfl (by decide) ?_
                    refine ev_iaddB (l := 5) (u := 5) rfl rfl (by decide : B 4 4 4) (by decide : B 1 1 1) (by decide) (by decide) (by decide) (by decide) (fun v2375 b2375 e2375 g2375 => ?_)
                    have e2375x := e2375; rw [show (4 : Int32).toInt = 4 from by decide] at e2375x
                    have e2375xx := e2375x; rw [show (1 : Int32).toInt = 1 from by decide] at e2375xx
                    have b2376 : B v2375 0 4 := ⟨(by have z0_ := congrArg Int32.toInt (rd_a k2374 (rd_a k2368 (rd_w k2283 (rd_w k2170 (rd_w k2163 (rd_w k2157 z1824 rfl) rfl) rfl) rfl) rfl) rfl); have z1_ := congrArg Int32.toInt (rd_a k2374 (rd_a k2368 (rd_w k2283 (rd_w k2170 ef2164 rfl) rfl) rfl) rfl); have z2_ := congrArg Int32.toInt (rd_a k2374 (rd_a k2368 ef2284 rfl) rfl); have z3_ := congrArg Int32.toInt (rd_a k2374 (rd_a k2368 (rd_w k2283 (rd_w k2170 ef2166 rfl) rfl) rfl) rfl); have z4_ := congrArg Int32.toInt (rd_a k2374 (rd_a k2368 (rd_w k2283 (rd_w k2170 ef2167 rfl) rfl) rfl) rfl); have z5_ := congrArg Int32.toInt (rd_a k2374 (rd_a k2368 (rd_w k2283 (rd_w k2170 (rd_w k2163 (rd_w k2157 ef1829 rfl) rfl) rfl) rfl) rfl) rfl); have z6_ := congrArg Int32.toInt (rd_a k2374 (rd_a k2368 (rd_w k2283 (rd_w k2170 (rd_w k2163 (rd_w k2157 ef1830 rfl) rfl) rfl) rfl) rfl) rfl); have z7_ := congrArg Int32.toInt (rd_a k2374 ef2369 rfl); have z8_ := congrArg Int32.toInt (rd_a k2374 ef2370 rfl); have z9_ := congrArg Int32.toInt (rd_a k2374 ef2371 rfl); have z10_ := congrArg Int32.toInt (rd_a k2374 ef2372 rfl); have z_ := w_lits; have zl_ := l_lits; omega), (by have z0_ := congrArg Int32.toInt (rd_a k2374 (rd_a k2368 (rd_w k2283 (rd_w k2170 (rd_w k2163 (rd_w k2157 z1824 rfl) rfl) rfl) rfl) rfl) rfl); have z1_ := congrArg Int32.toInt (rd_a k2374 (rd_a k2368 (rd_w k2283 (rd_w k2170 ef2164 rfl) rfl) rfl) rfl); have z2_ := congrArg Int32.toInt (rd_a k2374 (rd_a k2368 ef2284 rfl) rfl); have z3_ := congrArg Int32.toInt (rd_a k2374 (rd_a k2368 (rd_w k2283 (rd_w k2170 ef2166 rfl) rfl) rfl) rfl); have z4_ := congrArg Int32.toInt (rd_a k2374 (rd_a k2368 (rd_w k2283 (rd_w k2170 ef2167 rfl) rfl) rfl) rfl); have z5_ := congrArg Int32.toInt (rd_a k2374 (rd_a k2368 (rd_w k2283 (rd_w k2170 (rd_w k2163 (rd_w k2157 ef1829 rfl) rfl) rfl) rfl) rfl) rfl); have z6_ := congrArg Int32.toInt (rd_a k2374 (rd_a k2368 (rd_w k2283 (rd_w k2170 (rd_w k2163 (rd_w k2157 ef1830 rfl) rfl) rfl) rfl) rfl) rfl); have z7_ := congrArg Int32.toInt (rd_a k2374 ef2369 rfl); have z8_ := congrArg Int32.toInt (rd_a k2374 ef2370 rfl); have z9_ := congrArg Int32.toInt (rd_a k2374 ef2371 rfl); have z10_ := congrArg Int32.toInt (rd_a k2374 ef2372 rfl); have z_ := w_lits; have zl_ := l_lits; omega)⟩
                    refine ev_putW (l := 0) (u := 4) hJ2374 rfl b2376 (by decide) (by decide) rfl rfl rfl fl_X10_241 rfl rfl rfl rfl rfl (fun h2377 hJ2377 k2377 => ?_)
                    refine ev_iconst (v := 1) rfl rfl (by decide) ?_
                    refine ev_istore_n rfl rfl rfl rfl ?_
                    dsimp only [List.set]
                    refine ev_aload_n rfl rfl rfl ?_
                    have z2378 := congrArg Int32.toInt (rd_o k2377 (rd_a k2374 (rd_a k2368 (rd_w k2283 (rd_w k2170 (rd_w k2163 (rd_w k2157 z1824 rfl) rfl) rfl) rfl) rfl) rfl) rfl)
                    have z2379 := congrArg Int32.toInt (rd_o k2377 (rd_a k2374 (rd_a k2368 (rd_w k2283 (rd_w k2170 ef2164 rfl) rfl) rfl) rfl) rfl)
                    have z2380 := congrArg Int32.toInt (rd_o k2377 (rd_a k2374 (rd_a k2368 ef2284 rfl) rfl) rfl)
                    have z2381 := congrArg Int32.toInt (rd_o k2377 (rd_a k2374 (rd_a k2368 (rd_w k2283 (rd_w k2170 ef2166 rfl) rfl) rfl) rfl) rfl)
                    have z2382 := congrArg Int32.toInt (rd_o k2377 (rd_a k2374 (rd_a k2368 (rd_w k2283 (rd_w k2170 ef2167 rfl) rfl) rfl) rfl) rfl)
                    refine ev_V0K hJ2377 rfl rfl rfl lk_X10_251 vt_X10_next rfl rfl rfl rfl rfl (w_X10_next_63 L b h2377 hJ2377.1 (by have z0_ := congrArg Int32.toInt (rd_o k2377 (rd_a k2374 (rd_a k2368 (rd_w k2283 (rd_w k2170 (rd_w k2163 (rd_w k2157 z1824 rfl) rfl) rfl) rfl) rfl) rfl) rfl); have z1_ := congrArg Int32.toInt (rd_o k2377 (rd_a k2374 (rd_a k2368 (rd_w k2283 (rd_w k2170 ef2164 rfl) rfl) rfl) rfl) rfl); have z_ := w_lits; have zl_ := l_lits; omega)) (fun h2383 hJ2383 k2383 m2383 => ?_)
                    obtain ⟨m2383_0, m2383_1, m2383_2, m2383_3, m2383_4⟩ := m2383
                    obtain ⟨f2384, ef2384⟩ : ∃ f_, h2383 63 17 = f_ := ⟨_, rfl⟩
                    have bf2384 : B f2384 0 160 := by have z_ := hJ2383.1 63 17; rw [ef2384] at z_; exact z_
                    have zf2384 := congrArg Int32.toInt ef2384
                    obtain ⟨f2385, ef2385⟩ : ∃ f_, h2383 63 21 = f_ := ⟨_, rfl⟩
                    have bf2385 : B f2385 0 6 := by have z_ := hJ2383.1 63 21; rw [ef2385] at z_; exact z_
                    have zf2385 := congrArg Int32.toInt ef2385
                    obtain ⟨f2386, ef2386⟩ : ∃ f_, h2383 63 20 = f_ := ⟨_, rfl⟩
                    have zf2386 := congrArg Int32.toInt ef2386
                    obtain ⟨f2387, ef2387⟩ : ∃ f_, h2383 63 19 = f_ := ⟨_, rfl⟩
                    have bf2387 : B f2387 0 3 := by have z_ := hJ2383.1 63 19; rw [ef2387] at z_; exact z_
                    have zf2387 := congrArg Int32.toInt ef2387
                    have z2388 := congrArg Int32.toInt (rd_w k2383 (rd_o k2377 (rd_a k2374 (rd_a k2368 (rd_w k2283 (rd_w k2170 (rd_w k2163 (rd_w k2157 z1824 rfl) rfl) rfl) rfl) rfl) rfl) rfl) rfl)
                    refine ev_goto rfl rfl ?_
                    exact (EvQ.drop 3 (ih19 1 w1819 h2383 ((by decide : B 1 1 1).mono (by decide) (by decide)) b1821 hJ2383 (rd_w k2383 (rd_o k2377 (rd_a k2374 (rd_a k2368 (rd_w k2283 (rd_w k2170 (rd_w k2163 (rd_w k2157 z1824 rfl) rfl) rfl) rfl) rfl) rfl) rfl) rfl) (by have z0_ := congrArg Int32.toInt (rd_w k2383 (rd_o k2377 (rd_a k2374 (rd_a k2368 (rd_w k2283 (rd_w k2170 (rd_w k2163 (rd_w k2157 ef1829 rfl) rfl) rfl) rfl) rfl) rfl) rfl) rfl); have z1_ := congrArg Int32.toInt (rd_w k2383 (rd_s k2377) rfl); have z2_ := congrArg Int32.toInt (rd_w k2383 (rd_o k2377 (rd_a k2374 ef2369 rfl) rfl) rfl); have z_ := w_lits; have zl_ := l_lits; omega) (by have z0_ := congrArg Int32.toInt (rd_w k2383 (rd_o k2377 (rd_a k2374 (rd_a k2368 (rd_w k2283 (rd_w k2170 (rd_w k2163 (rd_w k2157 ef1829 rfl) rfl) rfl) rfl) rfl) rfl) rfl) rfl); have z1_ := congrArg Int32.toInt (rd_w k2383 (rd_s k2377) rfl); have z2_ := congrArg Int32.toInt (rd_w k2383 (rd_o k2377 (rd_a k2374 ef2369 rfl) rfl) rfl); have z3_ := congrArg Int32.toInt (rd_w k2383 (rd_o k2377 (rd_a k2374 ef2370 rfl) rfl) rfl); have z_ := w_lits; have zl_ := l_lits; omega) (by have z0_ := congrArg Int32.toInt (rd_w k2383 (rd_o k2377 (rd_a k2374 (rd_a k2368 (rd_w k2283 (rd_w k2170 (rd_w k2163 (rd_w k2157 ef1829 rfl) rfl) rfl) rfl) rfl) rfl) rfl) rfl); have z1_ := congrArg Int32.toInt (rd_w k2383 (rd_s k2377) rfl); have z2_ := congrArg Int32.toInt (rd_w k2383 (rd_o k2377 (rd_a k2374 ef2370 rfl) rfl) rfl); have z3_ := congrArg Int32.toInt (rd_w k2383 (rd_o k2377 (rd_a k2374 ef2371 rfl) rfl) rfl); have z_ := w_lits; have zl_ := l_lits; omega) (by have z0_ := congrArg Int32.toInt (rd_w k2383 (rd_o k2377 (rd_a k2374 (rd_a k2368 (rd_w k2283 (rd_w k2170 (rd_w k2163 (rd_w k2157 ef1829 rfl) rfl) rfl) rfl) rfl) rfl) rfl) rfl); have z1_ := congrArg Int32.toInt (rd_w k2383 (rd_s k2377) rfl); have z2_ := congrArg Int32.toInt (rd_w k2383 (rd_o k2377 (rd_a k2374 ef2371 rfl) rfl) rfl); have z3_ := congrArg Int32.toInt (rd_w k2383 (rd_o k2377 (rd_a k2374 ef2372 rfl) rfl) rfl); have z_ := w_lits; have zl_ := l_lits; omega) (by have z0_ := congrArg Int32.toInt (rd_w k2383 (rd_o k2377 (rd_a k2374 (rd_a k2368 (rd_w k2283 (rd_w k2170 (rd_w k2163 (rd_w k2157 z1824 rfl) rfl) rfl) rfl) rfl) rfl) rfl) rfl); have z1_ := congrArg Int32.toInt ef2384; have z_ := w_lits; have zl_ := l_lits; omega) (by have z0_ := congrArg Int32.toInt ef2385; have z1_ := congrArg Int32.toInt ef2386; have z2_ := congrArg Int32.toInt ef2387; have z_ := w_lits; have zl_ := l_lits; omega) (mM_dec hm19 (by have z0_ := congrArg Int32.toInt (rd_w k2383 (rd_o k2377 (rd_a k2374 (rd_a k2368 (rd_w k2283 (rd_w k2170 (rd_w k2163 (rd_w k2157 z1824 rfl) rfl) rfl) rfl) rfl) rfl) rfl) rfl); have z1_ := congrArg Int32.toInt ef2384; have z2_ := congrArg Int32.toInt ef2385; have z3_ := congrArg Int32.toInt ef2386; have z4_ := congrArg Int32.toInt ef2387; have z5_ := congrArg Int32.toInt (rd_w k2383 (rd_o k2377 (rd_a k2374 (rd_a k2368 (rd_w k2283 (rd_w k2170 (rd_w k2163 (rd_w k2157 ef1829 rfl) rfl) rfl) rfl) rfl) rfl) rfl) rfl); have z6_ := congrArg Int32.toInt (rd_w k2383 (rd_s k2377) rfl); have z7_ := congrArg Int32.toInt (rd_w k2383 (rd_o k2377 (rd_a k2374 ef2369 rfl) rfl) rfl); have z8_ := congrArg Int32.toInt (rd_w k2383 (rd_o k2377 (rd_a k2374 ef2370 rfl) rfl) rfl); have z9_ := congrArg Int32.toInt (rd_w k2383 (rd_o k2377 (rd_a k2374 ef2371 rfl) rfl) rfl); have z10_ := congrArg Int32.toInt (rd_w k2383 (rd_o k2377 (rd_a k2374 ef2372 rfl) rfl) rfl); have z_ := w_lits; have zl_ := l_lits; omega) (by have z0_ := congrArg Int32.toInt (rd_w k2383 (rd_o k2377 (rd_a k2374 (rd_a k2368 (rd_w k2283 (rd_w k2170 (rd_w k2163 (rd_w k2157 z1824 rfl) rfl) rfl) rfl) rfl) rfl) rfl) rfl); have z1_ := congrArg Int32.toInt ef2384; have z2_ := congrArg Int32.toInt ef2385; have z3_ := congrArg Int32.toInt ef2386; have z4_ := congrArg Int32.toInt ef2387; have z5_ := congrArg Int32.toInt (rd_w k2383 (rd_o k2377 (rd_a k2374 (rd_a k2368 (rd_w k2283 (rd_w k2170 (rd_w k2163 (rd_w k2157 ef1829 rfl) rfl) rfl) rfl) rfl) rfl) rfl) rfl); have z6_ := congrArg Int32.toInt (rd_w k2383 (rd_s k2377) rfl); have z7_ := congrArg Int32.toInt (rd_w k2383 (rd_o k2377 (rd_a k2374 ef2369 rfl) rfl) rfl); have z8_ := congrArg Int32.toInt (rd_w k2383 (rd_o k2377 (rd_a k2374 ef2370 rfl) rfl) rfl); have z9_ := congrArg Int32.toInt (rd_w k2383 (rd_o k2377 (rd_a k2374 ef2371 rfl) rfl) rfl); have z10_ := congrArg Int32.toInt (rd_w k2383 (rd_o k2377 (rd_a k2374 ef2372 rfl) rfl) rfl); have z_ := w_lits; have zl_ := l_lits; omega) (by have z0_ := congrArg Int32.toInt (rd_w k2383 (rd_o k2377 (rd_a k2374 (rd_a k2368 (rd_w k2283 (rd_w k2170 (rd_w k2163 (rd_w k2157 z1824 rfl) rfl) rfl) rfl) rfl) rfl) rfl) rfl); have z1_ := congrArg Int32.toInt ef2384; have z2_ := congrArg Int32.toInt ef2385; have z3_ := congrArg Int32.toInt ef2386; have z4_ := congrArg Int32.toInt ef2387; have z5_ := congrArg Int32.toInt (rd_w k2383 (rd_o k2377 (rd_a k2374 (rd_a k2368 (rd_w k2283 (rd_w k2170 (rd_w k2163 (rd_w k2157 ef1829 rfl) rfl) rfl) rfl) rfl) rfl) rfl) rfl); have z6_ := congrArg Int32.toInt (rd_w k2383 (rd_s k2377) rfl); have z7_ := congrArg Int32.toInt (rd_w k2383 (rd_o k2377 (rd_a k2374 ef2369 rfl) rfl) rfl); have z8_ := congrArg Int32.toInt (rd_w k2383 (rd_o k2377 (rd_a k2374 ef2370 rfl) rfl) rfl); have z9_ := congrArg Int32.toInt (rd_w k2383 (rd_o k2377 (rd_a k2374 ef2371 rfl) rfl) rfl); have z10_ := congrArg Int32.toInt (rd_w k2383 (rd_o k2377 (rd_a k2374 ef2372 rfl) rfl) rfl); have z_ := w_lits; have zl_ := l_lits; omega))))
          · have b1874 : B r1870 1 1 := R_neL b1870 (by decide : B 0 0 0) c1871 (by decide)
            have z1875 := w_ne c1871
            rw [show (0 : Int32).toInt = 0 from by decide] at z1875
            refine ev_aload_n rfl rfl rfl ?_
            refine ev_aload_n rfl rfl rfl ?_
            refine ev_getV (v := f1828) rfl rfl fl_X10_204 rfl rfl rfl ef1828 ?_
            refine ev_iconst (v := 1) rfl rfl (by decide) ?_
            refine ev_icmp_ne rfl rfl (fun c2389 => ?_) (fun c2389 => ?_)
            · have z2390 := w_ne c2389
              rw [show (1 : Int32).toInt = 1 from by decide] at z2390
              refine ev_iconst (v := 0) rfl rfl (by decide) ?_
              have b2393 : B 0 0 4095 := ⟨(by have z0_ := congrArg Int32.toInt z1824; have z1_ := congrArg Int32.toInt ef1825; have z2_ := congrArg Int32.toInt ef1826; have z3_ := congrArg Int32.toInt ef1827; have z4_ := congrArg Int32.toInt ef1828; have z5_ := congrArg Int32.toInt ef1829; have z6_ := congrArg Int32.toInt ef1830; have z7_ := congrArg Int32.toInt ef1831; have z8_ := congrArg Int32.toInt ef1832; have z9_ := congrArg Int32.toInt ef1833; have z10_ := congrArg Int32.toInt ef1834; have z_ := w_lits; have zl_ := l_lits; omega), (by have z0_ := congrArg Int32.toInt z1824; have z1_ := congrArg Int32.toInt ef1825; have z2_ := congrArg Int32.toInt ef1826; have z3_ := congrArg Int32.toInt ef1827; have z4_ := congrArg Int32.toInt ef1828; have z5_ := congrArg Int32.toInt ef1829; have z6_ := congrArg Int32.toInt ef1830; have z7_ := congrArg Int32.toInt ef1831; have z8_ := congrArg Int32.toInt ef1832; have z9_ := congrArg Int32.toInt ef1833; have z10_ := congrArg Int32.toInt ef1834; have z_ := w_lits; have zl_ := l_lits; omega)⟩
              refine ev_V1K hJ1823 rfl rfl rfl lk_X10_247 vt_X10_beatRead rfl rfl rfl rfl rfl (w_X10_beatRead_63 L b h1822 hJ1823.1 0 b2393 (by have z0_ := congrArg Int32.toInt ef1829; have z1_ := congrArg Int32.toInt ef1830; have z2_ := congrArg Int32.toInt ef1831; have z_ := w_lits; have zl_ := l_lits; omega) (by have z0_ := congrArg Int32.toInt ef1829; have z1_ := congrArg Int32.toInt ef1830; have z2_ := congrArg Int32.toInt ef1831; have z3_ := congrArg Int32.toInt ef1832; have z_ := w_lits; have zl_ := l_lits; omega) (by have z0_ := congrArg Int32.toInt ef1829; have z1_ := congrArg Int32.toInt ef1830; have z2_ := congrArg Int32.toInt ef1832; have z3_ := congrArg Int32.toInt ef1833; have z_ := w_lits; have zl_ := l_lits; omega) (by have z0_ := congrArg Int32.toInt ef1829; have z1_ := congrArg Int32.toInt ef1830; have z2_ := congrArg Int32.toInt ef1833; have z3_ := congrArg Int32.toInt ef1834; have z_ := w_lits; have zl_ := l_lits; omega)) (fun h2394 hJ2394 k2394 m2394 => ?_)
              obtain ⟨m2394_0, m2394_1, m2394_2, m2394_3⟩ := m2394
              obtain ⟨f2395, ef2395⟩ : ∃ f_, h2394 63 27 = f_ := ⟨_, rfl⟩
              have bf2395 : B f2395 0 60 := by have z_ := hJ2394.1 63 27; rw [ef2395] at z_; exact z_
              have zf2395 := congrArg Int32.toInt ef2395
              have z2396 := congrArg Int32.toInt (rd_w k2394 ef1830 rfl)
              have z2397 := congrArg Int32.toInt (rd_w k2394 ef1831 rfl)
              have z2398 := congrArg Int32.toInt (rd_w k2394 ef1832 rfl)
              have z2399 := congrArg Int32.toInt (rd_w k2394 ef1833 rfl)
              have z2400 := congrArg Int32.toInt (rd_w k2394 ef1834 rfl)
              refine ev_iconst (v := 0) rfl rfl (by decide) ?_
              refine ev_istore_n rfl rfl rfl rfl ?_
              dsimp only [List.set]
              refine ev_aload_n rfl rfl rfl ?_
              have z2401 := congrArg Int32.toInt (rd_w k2394 z1824 rfl)
              have z2402 := congrArg Int32.toInt (rd_w k2394 ef1825 rfl)
              have z2403 := congrArg Int32.toInt (rd_w k2394 ef1826 rfl)
              have z2404 := congrArg Int32.toInt (rd_w k2394 ef1827 rfl)
              have z2405 := congrArg Int32.toInt (rd_w k2394 ef1828 rfl)
              refine ev_V0K hJ2394 rfl rfl rfl lk_X10_251 vt_X10_next rfl rfl rfl rfl rfl (w_X10_next_63 L b h2394 hJ2394.1 (by have z0_ := congrArg Int32.toInt (rd_w k2394 z1824 rfl); have z1_ := congrArg Int32.toInt (rd_w k2394 ef1825 rfl); have z_ := w_lits; have zl_ := l_lits; omega)) (fun h2406 hJ2406 k2406 m2406 => ?_)
              obtain ⟨m2406_0, m2406_1, m2406_2, m2406_3, m2406_4⟩ := m2406
              obtain ⟨f2407, ef2407⟩ : ∃ f_, h2406 63 17 = f_ := ⟨_, rfl⟩
              have bf2407 : B f2407 0 160 := by have z_ := hJ2406.1 63 17; rw [ef2407] at z_; exact z_
              have zf2407 := congrArg Int32.toInt ef2407
              obtain ⟨f2408, ef2408⟩ : ∃ f_, h2406 63 21 = f_ := ⟨_, rfl⟩
              have bf2408 : B f2408 0 6 := by have z_ := hJ2406.1 63 21; rw [ef2408] at z_; exact z_
              have zf2408 := congrArg Int32.toInt ef2408
              obtain ⟨f2409, ef2409⟩ : ∃ f_, h2406 63 20 = f_ := ⟨_, rfl⟩
              have zf2409 := congrArg Int32.toInt ef2409
              obtain ⟨f2410, ef2410⟩ : ∃ f_, h2406 63 19 = f_ := ⟨_, rfl⟩
              have bf2410 : B f2410 0 3 := by have z_ := hJ2406.1 63 19; rw [ef2410] at z_; exact z_
              have zf2410 := congrArg Int32.toInt ef2410
              have z2411 := congrArg Int32.toInt (rd_w k2406 (rd_w k2394 z1824 rfl) rfl)
              refine ev_goto rfl rfl ?_
              exact (ih19 0 w1819 h2406 b2393 b1821 hJ2406 (rd_w k2406 (rd_w k2394 z1824 rfl) rfl) (by have z0_ := congrArg Int32.toInt (rd_w k2406 ef2395 rfl); have z1_ := congrArg Int32.toInt (rd_w k2406 (rd_w k2394 ef1830 rfl) rfl); have z2_ := congrArg Int32.toInt (rd_w k2406 (rd_w k2394 ef1831 rfl) rfl); have z_ := w_lits; have zl_ := l_lits; omega) (by have z0_ := congrArg Int32.toInt (rd_w k2406 ef2395 rfl); have z1_ := congrArg Int32.toInt (rd_w k2406 (rd_w k2394 ef1830 rfl) rfl); have z2_ := congrArg Int32.toInt (rd_w k2406 (rd_w k2394 ef1831 rfl) rfl); have z3_ := congrArg Int32.toInt (rd_w k2406 (rd_w k2394 ef1832 rfl) rfl); have z_ := w_lits; have zl_ := l_lits; omega) (by have z0_ := congrArg Int32.toInt (rd_w k2406 ef2395 rfl); have z1_ := congrArg Int32.toInt (rd_w k2406 (rd_w k2394 ef1830 rfl) rfl); have z2_ := congrArg Int32.toInt (rd_w k2406 (rd_w k2394 ef1832 rfl) rfl); have z3_ := congrArg Int32.toInt (rd_w k2406 (rd_w k2394 ef1833 rfl) rfl); have z_ := w_lits; have zl_ := l_lits; omega) (by have z0_ := congrArg Int32.toInt (rd_w k2406 ef2395 rfl); have z1_ := congrArg Int32.toInt (rd_w k2406 (rd_w k2394 ef1830 rfl) rfl); have z2_ := congrArg Int32.toInt (rd_w k2406 (rd_w k2394 ef1833 rfl) rfl); have z3_ := congrArg Int32.toInt (rd_w k2406 (rd_w k2394 ef1834 rfl) rfl); have z_ := w_lits; have zl_ := l_lits; omega) (by have z0_ := congrArg Int32.toInt (rd_w k2406 (rd_w k2394 z1824 rfl) rfl); have z1_ := congrArg Int32.toInt ef2407; have z_ := w_lits; have zl_ := l_lits; omega) (by have z0_ := congrArg Int32.toInt ef2408; have z1_ := congrArg Int32.toInt ef2409; have z2_ := congrArg Int32.toInt ef2410; have z_ := w_lits; have zl_ := l_lits; omega) (mM_dec hm19 (by have z0_ := congrArg Int32.toInt (rd_w k2406 (rd_w k2394 z1824 rfl) rfl); have z1_ := congrArg Int32.toInt ef2407; have z2_ := congrArg Int32.toInt ef2408; have z3_ := congrArg Int32.toInt ef2409; have z4_ := congrArg Int32.toInt ef2410; have z5_ := congrArg Int32.toInt (rd_w k2406 ef2395 rfl); have z6_ := congrArg Int32.toInt (rd_w k2406 (rd_w k2394 ef1830 rfl) rfl); have z7_ := congrArg Int32.toInt (rd_w k2406 (rd_w k2394 ef1831 rfl) rfl); have z8_ := congrArg Int32.toInt (rd_w k2406 (rd_w k2394 ef1832 rfl) rfl); have z9_ := congrArg Int32.toInt (rd_w k2406 (rd_w k2394 ef1833 rfl) rfl); have z10_ := congrArg Int32.toInt (rd_w k2406 (rd_w k2394 ef1834 rfl) rfl); have z_ := w_lits; have zl_ := l_lits; omega) (by have z0_ := congrArg Int32.toInt (rd_w k2406 (rd_w k2394 z1824 rfl) rfl); have z1_ := congrArg Int32.toInt ef2407; have z2_ := congrArg Int32.toInt ef2408; have z3_ := congrArg Int32.toInt ef2409; have z4_ := congrArg Int32.toInt ef2410; have z5_ := congrArg Int32.toInt (rd_w k2406 ef2395 rfl); have z6_ := congrArg Int32.toInt (rd_w k2406 (rd_w k2394 ef1830 rfl) rfl); have z7_ := congrArg Int32.toInt (rd_w k2406 (rd_w k2394 ef1831 rfl) rfl); have z8_ := congrArg Int32.toInt (rd_w k2406 (rd_w k2394 ef1832 rfl) rfl); have z9_ := congrArg Int32.toInt (rd_w k2406 (rd_w k2394 ef1833 rfl) rfl); have z10_ := congrArg Int32.toInt (rd_w k2406 (rd_w k2394 ef1834 rfl) rfl); have z_ := w_lits; have zl_ := l_lits; omega) (by have z0_ := congrArg Int32.toInt (rd_w k2406 (rd_w k2394 z1824 rfl) rfl); have z1_ := congrArg Int32.toInt ef2407; have z2_ := congrArg Int32.toInt ef2408; have z3_ := congrArg Int32.toInt ef2409; have z4_ := congrArg Int32.toInt ef2410; have z5_ := congrArg Int32.toInt (rd_w k2406 ef2395 rfl); have z6_ := congrArg Int32.toInt (rd_w k2406 (rd_w k2394 ef1830 rfl) rfl); have z7_ := congrArg Int32.toInt (rd_w k2406 (rd_w k2394 ef1831 rfl) rfl); have z8_ := congrArg Int32.toInt (rd_w k2406 (rd_w k2394 ef1832 rfl) rfl); have z9_ := congrArg Int32.toInt (rd_w k2406 (rd_w k2394 ef1833 rfl) rfl); have z10_ := congrArg Int32.toInt (rd_w k2406 (rd_w k2394 ef1834 rfl) rfl); have z_ := w_lits; have zl_ := l_lits; omega)))
            · have b2391 : B f1828 1 1 := R_eqX bf1828 (by decide : B 1 1 1) c2389
              have z2392 := congrArg Int32.toInt c2389
              rw [show (1 : Int32).toInt = 1 from by decide] at z2392
              refine ev_aload_n rfl rfl rfl ?_
              refine ev_getV (v := f1827) rfl rfl fl_X10_207 rfl rfl rfl ef1827 ?_
              refine ev_goto rfl rfl ?_
              have b2412 : B f1827 0 4095 := ⟨(by have z0_ := congrArg Int32.toInt z1824; have z1_ := congrArg Int32.toInt ef1825; have z2_ := congrArg Int32.toInt ef1826; have z3_ := congrArg Int32.toInt ef1827; have z4_ := congrArg Int32.toInt ef1828; have z5_ := congrArg Int32.toInt ef1829; have z6_ := congrArg Int32.toInt ef1830; have z7_ := congrArg Int32.toInt ef1831; have z8_ := congrArg Int32.toInt ef1832; have z9_ := congrArg Int32.toInt ef1833; have z10_ := congrArg Int32.toInt ef1834; have z_ := w_lits; have zl_ := l_lits; omega), (by have z0_ := congrArg Int32.toInt z1824; have z1_ := congrArg Int32.toInt ef1825; have z2_ := congrArg Int32.toInt ef1826; have z3_ := congrArg Int32.toInt ef1827; have z4_ := congrArg Int32.toInt ef1828; have z5_ := congrArg Int32.toInt ef1829; have z6_ := congrArg Int32.toInt ef1830; have z7_ := congrArg Int32.toInt ef1831; have z8_ := congrArg Int32.toInt ef1832; have z9_ := congrArg Int32.toInt ef1833; have z10_ := congrArg Int32.toInt ef1834; have z_ := w_lits; have zl_ := l_lits; omega)⟩
              refine ev_V1K hJ1823 rfl rfl rfl lk_X10_247 vt_X10_beatRead rfl rfl rfl rfl rfl (w_X10_beatRead_63 L b h1822 hJ1823.1 f1827 b2412 (by have z0_ := congrArg Int32.toInt ef1829; have z1_ := congrArg Int32.toInt ef1830; have z2_ := congrArg Int32.toInt ef1831; have z_ := w_lits; have zl_ := l_lits; omega) (by have z0_ := congrArg Int32.toInt ef1829; have z1_ := congrArg Int32.toInt ef1830; have z2_ := congrArg Int32.toInt ef1831; have z3_ := congrArg Int32.toInt ef1832; have z_ := w_lits; have zl_ := l_lits; omega) (by have z0_ := congrArg Int32.toInt ef1829; have z1_ := congrArg Int32.toInt ef1830; have z2_ := congrArg Int32.toInt ef1832; have z3_ := congrArg Int32.toInt ef1833; have z_ := w_lits; have zl_ := l_lits; omega) (by have z0_ := congrArg Int32.toInt ef1829; have z1_ := congrArg Int32.toInt ef1830; have z2_ := congrArg Int32.toInt ef1833; have z3_ := congrArg Int32.toInt ef1834; have z_ := w_lits; have zl_ := l_lits; omega)) (fun h2413 hJ2413 k2413 m2413 => ?_)
              obtain ⟨m2413_0, m2413_1, m2413_2, m2413_3⟩ := m2413
              obtain ⟨f2414, ef2414⟩ : ∃ f_, h2413 63 27 = f_ := ⟨_, rfl⟩
              have bf2414 : B f2414 0 60 := by have z_ := hJ2413.1 63 27; rw [ef2414] at z_; exact z_
              have zf2414 := congrArg Int32.toInt ef2414
              have z2415 := congrArg Int32.toInt (rd_w k2413 ef1830 rfl)
              have z2416 := congrArg Int32.toInt (rd_w k2413 ef1831 rfl)
              have z2417 := congrArg Int32.toInt (rd_w k2413 ef1832 rfl)
              have z2418 := congrArg Int32.toInt (rd_w k2413 ef1833 rfl)
              have z2419 := congrArg Int32.toInt (rd_w k2413 ef1834 rfl)
              refine ev_iconst (v := 0) rfl rfl (by decide) ?_
              refine ev_istore_n rfl rfl rfl rfl ?_
              dsimp only [List.set]
              refine ev_aload_n rfl rfl rfl ?_
              have z2420 := congrArg Int32.toInt (rd_w k2413 z1824 rfl)
              have z2421 := congrArg Int32.toInt (rd_w k2413 ef1825 rfl)
              have z2422 := congrArg Int32.toInt (rd_w k2413 ef1826 rfl)
              have z2423 := congrArg Int32.toInt (rd_w k2413 ef1827 rfl)
              have z2424 := congrArg Int32.toInt (rd_w k2413 ef1828 rfl)
              refine ev_V0K hJ2413 rfl rfl rfl lk_X10_251 vt_X10_next rfl rfl rfl rfl rfl (w_X10_next_63 L b h2413 hJ2413.1 (by have z0_ := congrArg Int32.toInt (rd_w k2413 z1824 rfl); have z1_ := congrArg Int32.toInt (rd_w k2413 ef1825 rfl); have z_ := w_lits; have zl_ := l_lits; omega)) (fun h2425 hJ2425 k2425 m2425 => ?_)
              obtain ⟨m2425_0, m2425_1, m2425_2, m2425_3, m2425_4⟩ := m2425
              obtain ⟨f2426, ef2426⟩ : ∃ f_, h2425 63 17 = f_ := ⟨_, rfl⟩
              have bf2426 : B f2426 0 160 := by have z_ := hJ2425.1 63 17; rw [ef2426] at z_; exact z_
              have zf2426 := congrArg Int32.toInt ef2426
              obtain ⟨f2427, ef2427⟩ : ∃ f_, h2425 63 21 = f_ := ⟨_, rfl⟩
              have bf2427 : B f2427 0 6 := by have z_ := hJ2425.1 63 21; rw [ef2427] at z_; exact z_
              have zf2427 := congrArg Int32.toInt ef2427
              obtain ⟨f2428, ef2428⟩ : ∃ f_, h2425 63 20 = f_ := ⟨_, rfl⟩
              have zf2428 := congrArg Int32.toInt ef2428
              obtain ⟨f2429, ef2429⟩ : ∃ f_, h2425 63 19 = f_ := ⟨_, rfl⟩
              have bf2429 : B f2429 0 3 := by have z_ := hJ2425.1 63 19; rw [ef2429] at z_; exact z_
              have zf2429 := congrArg Int32.toInt ef2429
              have z2430 := congrArg Int32.toInt (rd_w k2425 (rd_w k2413 z1824 rfl) rfl)
              refine ev_goto rfl rfl ?_
              exact (ih19 0 w1819 h2425 ((by decide : B 0 0 0).mono (by decide) (by decide)) b1821 hJ2425 (rd_w k2425 (rd_w k2413 z1824 rfl) rfl) (by have z0_ := congrArg Int32.toInt (rd_w k2425 ef2414 rfl); have z1_ := congrArg Int32.toInt (rd_w k2425 (rd_w k2413 ef1830 rfl) rfl); have z2_ := congrArg Int32.toInt (rd_w k2425 (rd_w k2413 ef1831 rfl) rfl); have z_ := w_lits; have zl_ := l_lits; omega) (by have z0_ := congrArg Int32.toInt (rd_w k2425 ef2414 rfl); have z1_ := congrArg Int32.toInt (rd_w k2425 (rd_w k2413 ef1830 rfl) rfl); have z2_ := congrArg Int32.toInt (rd_w k2425 (rd_w k2413 ef1831 rfl) rfl); have z3_ := congrArg Int32.toInt (rd_w k2425 (rd_w k2413 ef1832 rfl) rfl); have z_ := w_lits; have zl_ := l_lits; omega) (by have z0_ := congrArg Int32.toInt (rd_w k2425 ef2414 rfl); have z1_ := congrArg Int32.toInt (rd_w k2425 (rd_w k2413 ef1830 rfl) rfl); have z2_ := congrArg Int32.toInt (rd_w k2425 (rd_w k2413 ef1832 rfl) rfl); have z3_ := congrArg Int32.toInt (rd_w k2425 (rd_w k2413 ef1833 rfl) rfl); have z_ := w_lits; have zl_ := l_lits; omega) (by have z0_ := congrArg Int32.toInt (rd_w k2425 ef2414 rfl); have z1_ := congrArg Int32.toInt (rd_w k2425 (rd_w k2413 ef1830 rfl) rfl); have z2_ := congrArg Int32.toInt (rd_w k2425 (rd_w k2413 ef1833 rfl) rfl); have z3_ := congrArg Int32.toInt (rd_w k2425 (rd_w k2413 ef1834 rfl) rfl); have z_ := w_lits; have zl_ := l_lits; omega) (by have z0_ := congrArg Int32.toInt (rd_w k2425 (rd_w k2413 z1824 rfl) rfl); have z1_ := congrArg Int32.toInt ef2426; have z_ := w_lits; have zl_ := l_lits; omega) (by have z0_ := congrArg Int32.toInt ef2427; have z1_ := congrArg Int32.toInt ef2428; have z2_ := congrArg Int32.toInt ef2429; have z_ := w_lits; have zl_ := l_lits; omega) (mM_dec hm19 (by have z0_ := congrArg Int32.toInt (rd_w k2425 (rd_w k2413 z1824 rfl) rfl); have z1_ := congrArg Int32.toInt ef2426; have z2_ := congrArg Int32.toInt ef2427; have z3_ := congrArg Int32.toInt ef2428; have z4_ := congrArg Int32.toInt ef2429; have z5_ := congrArg Int32.toInt (rd_w k2425 ef2414 rfl); have z6_ := congrArg Int32.toInt (rd_w k2425 (rd_w k2413 ef1830 rfl) rfl); have z7_ := congrArg Int32.toInt (rd_w k2425 (rd_w k2413 ef1831 rfl) rfl); have z8_ := congrArg Int32.toInt (rd_w k2425 (rd_w k2413 ef1832 rfl) rfl); have z9_ := congrArg Int32.toInt (rd_w k2425 (rd_w k2413 ef1833 rfl) rfl); have z10_ := congrArg Int32.toInt (rd_w k2425 (rd_w k2413 ef1834 rfl) rfl); have z_ := w_lits; have zl_ := l_lits; omega) (by have z0_ := congrArg Int32.toInt (rd_w k2425 (rd_w k2413 z1824 rfl) rfl); have z1_ := congrArg Int32.toInt ef2426; have z2_ := congrArg Int32.toInt ef2427; have z3_ := congrArg Int32.toInt ef2428; have z4_ := congrArg Int32.toInt ef2429; have z5_ := congrArg Int32.toInt (rd_w k2425 ef2414 rfl); have z6_ := congrArg Int32.toInt (rd_w k2425 (rd_w k2413 ef1830 rfl) rfl); have z7_ := congrArg Int32.toInt (rd_w k2425 (rd_w k2413 ef1831 rfl) rfl); have z8_ := congrArg Int32.toInt (rd_w k2425 (rd_w k2413 ef1832 rfl) rfl); have z9_ := congrArg Int32.toInt (rd_w k2425 (rd_w k2413 ef1833 rfl) rfl); have z10_ := congrArg Int32.toInt (rd_w k2425 (rd_w k2413 ef1834 rfl) rfl); have z_ := w_lits; have zl_ := l_lits; omega) (by have z0_ := congrArg Int32.toInt (rd_w k2425 (rd_w k2413 z1824 rfl) rfl); have z1_ := congrArg Int32.toInt ef2426; have z2_ := congrArg Int32.toInt ef2427; have z3_ := congrArg Int32.toInt ef2428; have z4_ := congrArg Int32.toInt ef2429; have z5_ := congrArg Int32.toInt (rd_w k2425 ef2414 rfl); have z6_ := congrArg Int32.toInt (rd_w k2425 (rd_w k2413 ef1830 rfl) rfl); have z7_ := congrArg Int32.toInt (rd_w k2425 (rd_w k2413 ef1831 rfl) rfl); have z8_ := congrArg Int32.toInt (rd_w k2425 (rd_w k2413 ef1832 rfl) rfl); have z9_ := congrArg Int32.toInt (rd_w k2425 (rd_w k2413 ef1833 rfl) rfl); have z10_ := congrArg Int32.toInt (rd_w k2425 (rd_w k2413 ef1834 rfl) rfl); have z_ := w_lits; have zl_ := l_lits; omega)))
  exact (lp19_1817 330 1 1 h14 ((by decide : B 1 1 1).mono (by decide) (by decide)) (by decide : B 1 1 1) hJ14 (rd_o k14 (rd_o k13 (rd_o k12 ef1 rfl) rfl) rfl) (by have z0_ := congrArg Int32.toInt (rd_o k14 (rd_s k13) rfl); have z1_ := congrArg Int32.toInt (rd_o k14 (rd_o k13 (rd_s k12) rfl) rfl); have z2_ := congrArg Int32.toInt (rd_o k14 (rd_o k13 (rd_o k12 ef8 rfl) rfl) rfl); have z_ := w_lits; have zl_ := l_lits; omega) (by have z0_ := congrArg Int32.toInt (rd_o k14 (rd_s k13) rfl); have z1_ := congrArg Int32.toInt (rd_o k14 (rd_o k13 (rd_s k12) rfl) rfl); have z2_ := congrArg Int32.toInt (rd_o k14 (rd_o k13 (rd_o k12 ef8 rfl) rfl) rfl); have z3_ := congrArg Int32.toInt (rd_o k14 (rd_o k13 (rd_o k12 ef9 rfl) rfl) rfl); have z_ := w_lits; have zl_ := l_lits; omega) (by have z0_ := congrArg Int32.toInt (rd_o k14 (rd_s k13) rfl); have z1_ := congrArg Int32.toInt (rd_o k14 (rd_o k13 (rd_s k12) rfl) rfl); have z2_ := congrArg Int32.toInt (rd_o k14 (rd_o k13 (rd_o k12 ef9 rfl) rfl) rfl); have z3_ := congrArg Int32.toInt (rd_o k14 (rd_o k13 (rd_o k12 ef10 rfl) rfl) rfl); have z_ := w_lits; have zl_ := l_lits; omega) (by have z0_ := congrArg Int32.toInt (rd_o k14 (rd_s k13) rfl); have z1_ := congrArg Int32.toInt (rd_o k14 (rd_o k13 (rd_s k12) rfl) rfl); have z2_ := congrArg Int32.toInt (rd_o k14 (rd_o k13 (rd_o k12 ef10 rfl) rfl) rfl); have z3_ := congrArg Int32.toInt (rd_o k14 (rd_o k13 (rd_o k12 ef11 rfl) rfl) rfl); have z_ := w_lits; have zl_ := l_lits; omega) (by have z0_ := congrArg Int32.toInt (rd_o k14 (rd_o k13 (rd_o k12 ef1 rfl) rfl) rfl); have z1_ := congrArg Int32.toInt (rd_o k14 (rd_o k13 (rd_o k12 ef2 rfl) rfl) rfl); have z_ := w_lits; have zl_ := l_lits; omega) (by have z0_ := congrArg Int32.toInt (rd_o k14 (rd_o k13 (rd_o k12 ef3 rfl) rfl) rfl); have z1_ := congrArg Int32.toInt (rd_o k14 (rd_o k13 (rd_o k12 ef4 rfl) rfl) rfl); have z2_ := congrArg Int32.toInt (rd_o k14 (rd_o k13 (rd_o k12 ef5 rfl) rfl) rfl); have z_ := w_lits; have zl_ := l_lits; omega) (mM_top _ _ _ (hJ14.1 63 17)))
