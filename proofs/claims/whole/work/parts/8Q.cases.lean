/-! ===== the law's cases ===== -/
section
variable {b K x y o i n w : Nat} {xs : Nat → Int32} {g : Nat × Nat} {W : Dk} {M : Md} {h : aHf} {l5 l6 l7 l8 : Option Value}
theorem cmp0 : Op.cmpValue (some .eq) .l = iI 0 := rfl
theorem lc_28 (hI : lwI h b K xs x y o g) (hR : Rel W M) (hn : o < n) (hi : i + 7 ≤ K) (hK : K ≤ 3584) : lwE b K xs x y o g i n w W (L 400 0 1886 [some (.ref b), some (.ref x), some (.ref y), some (.ref o), some (.int (iI i)), l5, l6, l7, l8] [] (dkW (mdW h y M) x W, n, w, g)) := by
  obtain ⟨t1, e1, b1⟩ := iI_ex (xs ((i : Int) + 1).toNat)
  obtain ⟨t2, e2, b2⟩ := iI_ex (xs ((i : Int) + 2).toNat)
  have A : Alk 0 [(eIO, 1), (eIA, 2)] x y g W M (fun H => aE 399 72 [.ref x, .int (iI t1), .int (iI t2)] H) (fun H => aE 400 246 [.ref y, .int (iI t1), .int (iI t2)] H) := c_event (d := 387) (e := 391) (x := x) (y := y) (g := g) (by omega) hR b1 b2
  obtain ⟨h2, W', M', n1, w1, n', w', k, v, fo, hW, hD, hI2, ho, hR2, ht, hB, hk⟩ := wr_ok (w := w) (Wr := fun H => aE 400 24 [.ref x, .int (iI t1), .int (iI t2), .ref o] H) (P := fun _ => True) A hI hn tyT0 (by decide) (fun h' n' w' fo v hv hC ho => w_24 (d := 399) dk_0 hC ho) (fun E k hk h' n' w' hC => by
      simp only [List.mem_cons, Prod.mk.injEq, List.not_mem_nil, or_false] at hk
      rcases hk with ⟨rfl, rfl⟩ | ⟨rfl, rfl⟩
      · exact w_24_1 (d := 399) dk_0 hC
      · exact w_24_2 (d := 399) dk_0 hC)
  replace hW : aE 400 24 [.ref x, .int (iI t1), .int (iI t2), .ref o] (dkW (mdW h y M) x W, n, w, g) = some (.inl (some (.int (iI k))), (mdW (dkW h2 x W') y M, n1, w1, g)) := hW
  replace hD : aE 400 246 [.ref y, .int (iI t1), .int (iI t2)] (mdW (dkW h2 x W') y M, n1, w1, g) = some (.inl (some (.int v)), (mdW (dkW h2 x W') y M', n', w', g)) := hD
  have hth : aE 400 182 [.ref y] (mdW (dkW h2 x W') y M', n', w', g) = some (.inl (some (.int (iI k))), (mdW (dkW h2 x W') y M', n', w', g)) := by rw [r_thrown (d := 399), ht]
  have hb := lw_b (W := W) (M := M) hI
  have hb2 := lw_b2 (W := W') (M := M) hI2
  have ho2 := lw_oo (W := W') (M := M') hI2 ho
  refine ⟨h2, W', M', n', w', some (.int (iI k)), some (.int v), l7, l8, ?_, hI2, hR2, hB⟩
  rw [dm_comm (h := h2) hI2.2.2.2.2.2.1]
  rcases hk with ⟨rfl, hf, -⟩ | ⟨k1, k2⟩
  · simp (disch := omega) only [r0_1886, r0_1887, r0_1888, r0_1890, r0_1891, r0_1892, r0_1893, r0_1894, r0_1896, r0_1897, r0_1898, r0_1899, r0_1900, r0_1903, r0_1905, r0_1906, r0_1907, r0_1909, r0_1910, r0_1911, r0_1912, r0_1913, r0_1915, r0_1916, r0_1917, r0_1918, r0_1921, r0_1923, r0_1924, r0_1927, r0_1929, r0_1932, r0_1933, r0_1934, r0_1936, r0_1939, r0_1940, r0_1941, r0_1942, r0_1944, r0_1945, r0_1946, r0_1949, r0_1950, r0_1951, gI_F, iI_add, e1, e2, hW, hD, hth, hb, hb2, md_0, c0_, kl_n, kl_i, kl_r, kl_z, kl_l, kl_d, catS_0, catS_c, cat_i, cat_l, cat_d, cat_r, cat_n, kC_r, kC_x, Option.bind_some, Option.toList_some, Option.toList_none, List.cons_append, List.nil_append, gB0, gB1, gB2, gB3, gB4, rvB, nI_iI, i0, i1, l0_, wr_s, aup_s, and_true, true_and, and_self, eq_self, if_true, if_false, Nat.zero_le, Nat.reduceAdd, Nat.reduceLeDiff, gN_I, gN_L, gN_P, bI_0, bI_ok, z0, z1, Bool.true_eq, Bool.false_eq_true, not_true_eq_false, not_false_eq_true, ho2, gL_1, hf, lc_eq]
  · simp (disch := omega) only [r0_1886, r0_1887, r0_1888, r0_1890, r0_1891, r0_1892, r0_1893, r0_1894, r0_1896, r0_1897, r0_1898, r0_1899, r0_1900, r0_1903, r0_1905, r0_1906, r0_1907, r0_1909, r0_1910, r0_1911, r0_1912, r0_1913, r0_1915, r0_1916, r0_1917, r0_1918, r0_1921, r0_1923, r0_1924, r0_1927, r0_1929, r0_1932, r0_1933, r0_1934, r0_1936, r0_1939, r0_1940, r0_1941, r0_1942, r0_1944, r0_1945, r0_1946, r0_1949, r0_1950, r0_1951, gI_F, iI_add, e1, e2, hW, hD, hth, hb, hb2, md_0, c0_, kl_n, kl_i, kl_r, kl_z, kl_l, kl_d, catS_0, catS_c, cat_i, cat_l, cat_d, cat_r, cat_n, kC_r, kC_x, Option.bind_some, Option.toList_some, Option.toList_none, List.cons_append, List.nil_append, gB0, gB1, gB2, gB3, gB4, rvB, nI_iI, i0, i1, l0_, wr_s, aup_s, and_true, true_and, and_self, eq_self, if_true, if_false, Nat.zero_le, Nat.reduceAdd, Nat.reduceLeDiff, gN_I, gN_L, gN_P, bI_0, bI_ok, z0, z1, Bool.true_eq, Bool.false_eq_true, not_true_eq_false, not_false_eq_true, iI_nz k1 k2]

theorem lc_29 (hI : lwI h b K xs x y o g) (hR : Rel W M) (hn : o < n) (hi : i + 7 ≤ K) (hK : K ≤ 3584) : lwE b K xs x y o g i n w W (L 400 0 1954 [some (.ref b), some (.ref x), some (.ref y), some (.ref o), some (.int (iI i)), l5, l6, l7, l8] [] (dkW (mdW h y M) x W, n, w, g)) := by
  obtain ⟨t1, e1, b1⟩ := iI_ex (xs ((i : Int) + 1).toNat)
  have A : Alk 0 [(eIA, 1)] x y g W M (fun H => aE 399 73 [.ref x, .int (iI t1)] H) (fun H => aE 400 247 [.ref y, .int (iI t1)] H) := c_sounding (d := 387) (e := 391) (x := x) (y := y) (g := g) hR b1
  obtain ⟨h2, W', M', n1, w1, n', w', k, v, fo, hW, hD, hI2, ho, hR2, ht, hB, hk⟩ := wr_ok (w := w) (Wr := fun H => aE 400 25 [.ref x, .int (iI t1), .ref o] H) (P := fun _ => True) A hI hn tyT0 (by decide) (fun h' n' w' fo v hv hC ho => w_25 (d := 399) dk_0 hC ho) (fun E k hk h' n' w' hC => by
      simp only [List.mem_cons, Prod.mk.injEq, List.not_mem_nil, or_false] at hk
      obtain ⟨rfl, rfl⟩ := hk
      exact w_25_1 (d := 399) dk_0 hC)
  replace hW : aE 400 25 [.ref x, .int (iI t1), .ref o] (dkW (mdW h y M) x W, n, w, g) = some (.inl (some (.int (iI k))), (mdW (dkW h2 x W') y M, n1, w1, g)) := hW
  replace hD : aE 400 247 [.ref y, .int (iI t1)] (mdW (dkW h2 x W') y M, n1, w1, g) = some (.inl (some (.int v)), (mdW (dkW h2 x W') y M', n', w', g)) := hD
  have hth : aE 400 182 [.ref y] (mdW (dkW h2 x W') y M', n', w', g) = some (.inl (some (.int (iI k))), (mdW (dkW h2 x W') y M', n', w', g)) := by rw [r_thrown (d := 399), ht]
  have hb := lw_b (W := W) (M := M) hI
  have hb2 := lw_b2 (W := W') (M := M) hI2
  have ho2 := lw_oo (W := W') (M := M') hI2 ho
  refine ⟨h2, W', M', n', w', some (.int (iI k)), some (.int v), l7, l8, ?_, hI2, hR2, hB⟩
  rw [dm_comm (h := h2) hI2.2.2.2.2.2.1]
  rcases hk with ⟨rfl, hf, -⟩ | ⟨k1, k2⟩
  · simp (disch := omega) only [r0_1954, r0_1955, r0_1956, r0_1958, r0_1959, r0_1960, r0_1961, r0_1962, r0_1965, r0_1967, r0_1968, r0_1969, r0_1971, r0_1972, r0_1973, r0_1974, r0_1977, r0_1979, r0_1980, r0_1983, r0_1985, r0_1988, r0_1989, r0_1990, r0_1992, r0_1995, r0_1996, r0_1997, r0_1998, r0_2000, r0_2001, r0_2002, r0_2005, r0_2006, r0_2007, gI_F, iI_add, e1, hW, hD, hth, hb, hb2, md_0, c0_, kl_n, kl_i, kl_r, kl_z, kl_l, kl_d, catS_0, catS_c, cat_i, cat_l, cat_d, cat_r, cat_n, kC_r, kC_x, Option.bind_some, Option.toList_some, Option.toList_none, List.cons_append, List.nil_append, gB0, gB1, gB2, gB3, gB4, rvB, nI_iI, i0, i1, l0_, wr_s, aup_s, and_true, true_and, and_self, eq_self, if_true, if_false, Nat.zero_le, Nat.reduceAdd, Nat.reduceLeDiff, gN_I, gN_L, gN_P, bI_0, bI_ok, z0, z1, Bool.true_eq, Bool.false_eq_true, not_true_eq_false, not_false_eq_true, ho2, gL_1, hf, lc_eq]
  · simp (disch := omega) only [r0_1954, r0_1955, r0_1956, r0_1958, r0_1959, r0_1960, r0_1961, r0_1962, r0_1965, r0_1967, r0_1968, r0_1969, r0_1971, r0_1972, r0_1973, r0_1974, r0_1977, r0_1979, r0_1980, r0_1983, r0_1985, r0_1988, r0_1989, r0_1990, r0_1992, r0_1995, r0_1996, r0_1997, r0_1998, r0_2000, r0_2001, r0_2002, r0_2005, r0_2006, r0_2007, gI_F, iI_add, e1, hW, hD, hth, hb, hb2, md_0, c0_, kl_n, kl_i, kl_r, kl_z, kl_l, kl_d, catS_0, catS_c, cat_i, cat_l, cat_d, cat_r, cat_n, kC_r, kC_x, Option.bind_some, Option.toList_some, Option.toList_none, List.cons_append, List.nil_append, gB0, gB1, gB2, gB3, gB4, rvB, nI_iI, i0, i1, l0_, wr_s, aup_s, and_true, true_and, and_self, eq_self, if_true, if_false, Nat.zero_le, Nat.reduceAdd, Nat.reduceLeDiff, gN_I, gN_L, gN_P, bI_0, bI_ok, z0, z1, Bool.true_eq, Bool.false_eq_true, not_true_eq_false, not_false_eq_true, iI_nz k1 k2]

theorem lc_30 (hI : lwI h b K xs x y o g) (hR : Rel W M) (hn : o < n) (hi : i + 7 ≤ K) (hK : K ≤ 3584) : lwE b K xs x y o g i n w W (L 400 0 2010 [some (.ref b), some (.ref x), some (.ref y), some (.ref o), some (.int (iI i)), l5, l6, l7, l8] [] (dkW (mdW h y M) x W, n, w, g)) := by
  have A : Alk 0 [] x y g W M (fun H => aE 400 74 [.ref x] H) (fun H => aE 400 249 [.ref y] H) := c_most (d := 388) (e := 391) (x := x) (y := y) (g := g) (by omega) hR
  obtain ⟨W', M', n', w', v, hv, hC, hD, hR2, hB⟩ := dr_ok (w := w) A hI hn
  obtain ⟨v, rfl⟩ := hv
  replace hC : aE 400 74 [.ref x] (dkW (mdW h y M) x W, n, w, g) = some (.inl (some (.int v)), (mdW (dkW h x W') y M, n, w, g)) := hC
  replace hD : aE 400 249 [.ref y] (mdW (dkW h x W') y M, n, w, g) = some (.inl (some (.int v)), (mdW (dkW h x W') y M', n', w', g)) := hD
  refine ⟨h, W', M', n', w', l5, l6, l7, l8, ?_, hI, hR2, hB⟩
  rw [dm_comm (h := h) (M := M') hI.2.2.2.2.2.1]
  simp (disch := omega) only [r0_2010, r0_2011, r0_2014, r0_2015, r0_2018, r0_2021, r0_2022, hC, hD, md_0, dk_0, kl_n, kl_i, kl_r, kl_z, kl_l, kl_d, catS_0, catS_c, cat_i, cat_l, cat_d, cat_r, cat_n, kC_r, kC_x, Option.bind_some, Option.toList_some, Option.toList_none, List.cons_append, List.nil_append, gB0, gB1, gB2, gB3, gB4, rvB, nI_iI, i0, i1, l0_, wr_s, aup_s, and_true, true_and, and_self, eq_self, if_true, if_false, Nat.zero_le, Nat.reduceAdd, Nat.reduceLeDiff, gN_I, gN_L, gN_P, bI_0, bI_ok, z0, z1, Bool.true_eq, Bool.false_eq_true, not_true_eq_false, not_false_eq_true]

theorem lc_31 (hI : lwI h b K xs x y o g) (hR : Rel W M) (hn : o < n) (hi : i + 7 ≤ K) (hK : K ≤ 3584) : lwE b K xs x y o g i n w W (L 400 0 2023 [some (.ref b), some (.ref x), some (.ref y), some (.ref o), some (.int (iI i)), l5, l6, l7, l8] [] (dkW (mdW h y M) x W, n, w, g)) := by
  have A : Alk 0 [] x y g W M (fun H => aE 400 75 [.ref x] H) (fun H => aE 400 251 [.ref y] H) := c_playedTo (d := 388) (e := 391) (x := x) (y := y) (g := g) (by omega) hR
  obtain ⟨W', M', n', w', v, hv, hC, hD, hR2, hB⟩ := dr_ok (w := w) A hI hn
  obtain ⟨v, rfl⟩ := hv
  replace hC : aE 400 75 [.ref x] (dkW (mdW h y M) x W, n, w, g) = some (.inl (some (.int v)), (mdW (dkW h x W') y M, n, w, g)) := hC
  replace hD : aE 400 251 [.ref y] (mdW (dkW h x W') y M, n, w, g) = some (.inl (some (.int v)), (mdW (dkW h x W') y M', n', w', g)) := hD
  refine ⟨h, W', M', n', w', l5, l6, l7, l8, ?_, hI, hR2, hB⟩
  rw [dm_comm (h := h) (M := M') hI.2.2.2.2.2.1]
  simp (disch := omega) only [r0_2023, r0_2024, r0_2027, r0_2028, r0_2031, r0_2034, r0_2035, hC, hD, md_0, dk_0, kl_n, kl_i, kl_r, kl_z, kl_l, kl_d, catS_0, catS_c, cat_i, cat_l, cat_d, cat_r, cat_n, kC_r, kC_x, Option.bind_some, Option.toList_some, Option.toList_none, List.cons_append, List.nil_append, gB0, gB1, gB2, gB3, gB4, rvB, nI_iI, i0, i1, l0_, wr_s, aup_s, and_true, true_and, and_self, eq_self, if_true, if_false, Nat.zero_le, Nat.reduceAdd, Nat.reduceLeDiff, gN_I, gN_L, gN_P, bI_0, bI_ok, z0, z1, Bool.true_eq, Bool.false_eq_true, not_true_eq_false, not_false_eq_true]

theorem lc_32 (hI : lwI h b K xs x y o g) (hR : Rel W M) (hn : o < n) (hi : i + 7 ≤ K) (hK : K ≤ 3584) : lwE b K xs x y o g i n w W (L 400 0 2036 [some (.ref b), some (.ref x), some (.ref y), some (.ref o), some (.int (iI i)), l5, l6, l7, l8] [] (dkW (mdW h y M) x W, n, w, g)) := by
  have A : Alk 3 [] x y g W M (fun H => aE 400 76 [.ref x] H) (fun H => aE 400 252 [.ref y] H) := c_meanForce (d := 388) (e := 391) (x := x) (y := y) (g := g) hR
  obtain ⟨W', M', n', w', v, hv, hC, hD, hR2, hB⟩ := dr_ok (w := w) A hI hn
  obtain ⟨v, rfl, hv⟩ := hv
  replace hC : aE 400 76 [.ref x] (dkW (mdW h y M) x W, n, w, g) = some (.inl (some (.double v)), (mdW (dkW h x W') y M, n, w, g)) := hC
  replace hD : aE 400 252 [.ref y] (mdW (dkW h x W') y M, n, w, g) = some (.inl (some (.double v)), (mdW (dkW h x W') y M', n', w', g)) := hD
  refine ⟨h, W', M', n', w', some (.double v), none, some (.double v), none, ?_, hI, hR2, hB⟩
  rw [dm_comm (h := h) (M := M') hI.2.2.2.2.2.1]
  simp (disch := omega) only [r0_2036, r0_2037, r0_2040, r0_2042, r0_2043, r0_2046, r0_2048, r0_2050, r0_2052, r0_2053, r0_2056, r0_2058, r0_2060, r0_2061, r0_2064, r0_2066, r0_2068, r0_2069, r0_2072, r0_2073, r0_2074, hC, hD, md_0, dk_0, hv, cmp0, kl_n, kl_i, kl_r, kl_z, kl_l, kl_d, catS_0, catS_c, cat_i, cat_l, cat_d, cat_r, cat_n, kC_r, kC_x, Option.bind_some, Option.toList_some, Option.toList_none, List.cons_append, List.nil_append, gB0, gB1, gB2, gB3, gB4, rvB, nI_iI, i0, i1, l0_, wr_s, aup_s, and_true, true_and, and_self, eq_self, if_true, if_false, Nat.zero_le, Nat.reduceAdd, Nat.reduceLeDiff, gN_I, gN_L, gN_P, bI_0, bI_ok, z0, z1, Bool.true_eq, Bool.false_eq_true, not_true_eq_false, not_false_eq_true]

theorem lc_33 (hI : lwI h b K xs x y o g) (hR : Rel W M) (hn : o < n) (hi : i + 7 ≤ K) (hK : K ≤ 3584) : lwE b K xs x y o g i n w W (L 400 0 2077 [some (.ref b), some (.ref x), some (.ref y), some (.ref o), some (.int (iI i)), l5, l6, l7, l8] [] (dkW (mdW h y M) x W, n, w, g)) := by
  obtain ⟨t1, e1, b1⟩ := iI_ex (xs ((i : Int) + 1).toNat)
  obtain ⟨t2, e2, b2⟩ := iI_ex (xs ((i : Int) + 2).toNat)
  obtain ⟨t3, e3, b3⟩ := iI_ex (xs ((i : Int) + 3).toNat)
  obtain ⟨t4, e4, b4⟩ := iI_ex (xs ((i : Int) + 4).toNat)
  have A : Alk 0 [(eIA, 1)] x y g W M (fun H => aE 399 78 [.ref x, .int (iI t1), .int (iI t2), .int (iI t3), .int (iI t4)] H) (fun H => aE 400 254 [.ref y, .int (iI t1), .int (iI t2), .int (iI t3), .int (iI t4)] H) := c_wouldMove (d := 387) (e := 391) (x := x) (y := y) (g := g) hR b1 b2 b3 b4
  obtain ⟨h2, W', M', n1, w1, n', w', k, v, fo, hW, hD, hI2, ho, hR2, ht, hB, hk⟩ := wr_ok (w := w) (Wr := fun H => aE 400 26 [.ref x, .int (iI t1), .int (iI t2), .int (iI t3), .int (iI t4), .ref o] H) (P := fun _ => True) A hI hn tyT0 (by decide) (fun h' n' w' fo v hv hC ho => w_26 (d := 399) dk_0 hC ho) (fun E k hk h' n' w' hC => by
      simp only [List.mem_cons, Prod.mk.injEq, List.not_mem_nil, or_false] at hk
      obtain ⟨rfl, rfl⟩ := hk
      exact w_26_1 (d := 399) dk_0 hC)
  replace hW : aE 400 26 [.ref x, .int (iI t1), .int (iI t2), .int (iI t3), .int (iI t4), .ref o] (dkW (mdW h y M) x W, n, w, g) = some (.inl (some (.int (iI k))), (mdW (dkW h2 x W') y M, n1, w1, g)) := hW
  replace hD : aE 400 254 [.ref y, .int (iI t1), .int (iI t2), .int (iI t3), .int (iI t4)] (mdW (dkW h2 x W') y M, n1, w1, g) = some (.inl (some (.int v)), (mdW (dkW h2 x W') y M', n', w', g)) := hD
  have hth : aE 400 182 [.ref y] (mdW (dkW h2 x W') y M', n', w', g) = some (.inl (some (.int (iI k))), (mdW (dkW h2 x W') y M', n', w', g)) := by rw [r_thrown (d := 399), ht]
  have hb := lw_b (W := W) (M := M) hI
  have hb2 := lw_b2 (W := W') (M := M) hI2
  have ho2 := lw_oo (W := W') (M := M') hI2 ho
  refine ⟨h2, W', M', n', w', some (.int (iI k)), some (.int v), l7, l8, ?_, hI2, hR2, hB⟩
  rw [dm_comm (h := h2) hI2.2.2.2.2.2.1]
  rcases hk with ⟨rfl, hf, -⟩ | ⟨k1, k2⟩
  · simp (disch := omega) only [r0_2077, r0_2078, r0_2079, r0_2081, r0_2082, r0_2083, r0_2084, r0_2085, r0_2087, r0_2088, r0_2089, r0_2090, r0_2091, r0_2093, r0_2094, r0_2095, r0_2096, r0_2097, r0_2099, r0_2100, r0_2101, r0_2102, r0_2103, r0_2106, r0_2108, r0_2109, r0_2110, r0_2112, r0_2113, r0_2114, r0_2115, r0_2116, r0_2118, r0_2119, r0_2120, r0_2121, r0_2122, r0_2124, r0_2125, r0_2126, r0_2127, r0_2128, r0_2130, r0_2131, r0_2132, r0_2133, r0_2136, r0_2138, r0_2139, r0_2142, r0_2144, r0_2147, r0_2148, r0_2149, r0_2151, r0_2154, r0_2155, r0_2156, r0_2157, r0_2159, r0_2160, r0_2161, r0_2164, r0_2165, r0_2166, gI_F, iI_add, e1, e2, e3, e4, hW, hD, hth, hb, hb2, md_0, c0_, kl_n, kl_i, kl_r, kl_z, kl_l, kl_d, catS_0, catS_c, cat_i, cat_l, cat_d, cat_r, cat_n, kC_r, kC_x, Option.bind_some, Option.toList_some, Option.toList_none, List.cons_append, List.nil_append, gB0, gB1, gB2, gB3, gB4, rvB, nI_iI, i0, i1, l0_, wr_s, aup_s, and_true, true_and, and_self, eq_self, if_true, if_false, Nat.zero_le, Nat.reduceAdd, Nat.reduceLeDiff, gN_I, gN_L, gN_P, bI_0, bI_ok, z0, z1, Bool.true_eq, Bool.false_eq_true, not_true_eq_false, not_false_eq_true, ho2, gL_1, hf, lc_eq]
  · simp (disch := omega) only [r0_2077, r0_2078, r0_2079, r0_2081, r0_2082, r0_2083, r0_2084, r0_2085, r0_2087, r0_2088, r0_2089, r0_2090, r0_2091, r0_2093, r0_2094, r0_2095, r0_2096, r0_2097, r0_2099, r0_2100, r0_2101, r0_2102, r0_2103, r0_2106, r0_2108, r0_2109, r0_2110, r0_2112, r0_2113, r0_2114, r0_2115, r0_2116, r0_2118, r0_2119, r0_2120, r0_2121, r0_2122, r0_2124, r0_2125, r0_2126, r0_2127, r0_2128, r0_2130, r0_2131, r0_2132, r0_2133, r0_2136, r0_2138, r0_2139, r0_2142, r0_2144, r0_2147, r0_2148, r0_2149, r0_2151, r0_2154, r0_2155, r0_2156, r0_2157, r0_2159, r0_2160, r0_2161, r0_2164, r0_2165, r0_2166, gI_F, iI_add, e1, e2, e3, e4, hW, hD, hth, hb, hb2, md_0, c0_, kl_n, kl_i, kl_r, kl_z, kl_l, kl_d, catS_0, catS_c, cat_i, cat_l, cat_d, cat_r, cat_n, kC_r, kC_x, Option.bind_some, Option.toList_some, Option.toList_none, List.cons_append, List.nil_append, gB0, gB1, gB2, gB3, gB4, rvB, nI_iI, i0, i1, l0_, wr_s, aup_s, and_true, true_and, and_self, eq_self, if_true, if_false, Nat.zero_le, Nat.reduceAdd, Nat.reduceLeDiff, gN_I, gN_L, gN_P, bI_0, bI_ok, z0, z1, Bool.true_eq, Bool.false_eq_true, not_true_eq_false, not_false_eq_true, iI_nz k1 k2]

theorem lc_34 (hI : lwI h b K xs x y o g) (hR : Rel W M) (hn : o < n) (hi : i + 7 ≤ K) (hK : K ≤ 3584) : lwE b K xs x y o g i n w W (L 400 0 2169 [some (.ref b), some (.ref x), some (.ref y), some (.ref o), some (.int (iI i)), l5, l6, l7, l8] [] (dkW (mdW h y M) x W, n, w, g)) := by
  obtain ⟨t1, e1, b1⟩ := iI_ex (xs ((i : Int) + 1).toNat)
  have A : Alk 0 [(eIO, 1)] x y g W M (fun H => aE 399 79 [.ref x, .int (iI t1)] H) (fun H => aE 400 256 [.ref y, .int (iI t1)] H) := c_eventsAlone (d := 387) (e := 391) (x := x) (y := y) (g := g) hR b1
  obtain ⟨h2, W', M', n1, w1, n', w', k, v, fo, hW, hD, hI2, ho, hR2, ht, hB, hk⟩ := wr_ok (w := w) (Wr := fun H => aE 400 27 [.ref x, .int (iI t1), .ref o] H) (P := fun _ => True) A hI hn tyT0 (by decide) (fun h' n' w' fo v hv hC ho => w_27 (d := 399) dk_0 hC ho) (fun E k hk h' n' w' hC => by
      simp only [List.mem_cons, Prod.mk.injEq, List.not_mem_nil, or_false] at hk
      obtain ⟨rfl, rfl⟩ := hk
      exact w_27_1 (d := 399) dk_0 hC)
  replace hW : aE 400 27 [.ref x, .int (iI t1), .ref o] (dkW (mdW h y M) x W, n, w, g) = some (.inl (some (.int (iI k))), (mdW (dkW h2 x W') y M, n1, w1, g)) := hW
  replace hD : aE 400 256 [.ref y, .int (iI t1)] (mdW (dkW h2 x W') y M, n1, w1, g) = some (.inl (some (.int v)), (mdW (dkW h2 x W') y M', n', w', g)) := hD
  have hth : aE 400 182 [.ref y] (mdW (dkW h2 x W') y M', n', w', g) = some (.inl (some (.int (iI k))), (mdW (dkW h2 x W') y M', n', w', g)) := by rw [r_thrown (d := 399), ht]
  have hb := lw_b (W := W) (M := M) hI
  have hb2 := lw_b2 (W := W') (M := M) hI2
  have ho2 := lw_oo (W := W') (M := M') hI2 ho
  refine ⟨h2, W', M', n', w', some (.int (iI k)), some (.int v), l7, l8, ?_, hI2, hR2, hB⟩
  rw [dm_comm (h := h2) hI2.2.2.2.2.2.1]
  rcases hk with ⟨rfl, hf, -⟩ | ⟨k1, k2⟩
  · simp (disch := omega) only [r0_2169, r0_2170, r0_2171, r0_2173, r0_2174, r0_2175, r0_2176, r0_2177, r0_2180, r0_2182, r0_2183, r0_2184, r0_2186, r0_2187, r0_2188, r0_2189, r0_2192, r0_2194, r0_2195, r0_2198, r0_2200, r0_2203, r0_2204, r0_2205, r0_2207, r0_2210, r0_2211, r0_2212, r0_2213, r0_2215, r0_2216, r0_2217, r0_2220, r0_2221, r0_2222, gI_F, iI_add, e1, hW, hD, hth, hb, hb2, md_0, c0_, kl_n, kl_i, kl_r, kl_z, kl_l, kl_d, catS_0, catS_c, cat_i, cat_l, cat_d, cat_r, cat_n, kC_r, kC_x, Option.bind_some, Option.toList_some, Option.toList_none, List.cons_append, List.nil_append, gB0, gB1, gB2, gB3, gB4, rvB, nI_iI, i0, i1, l0_, wr_s, aup_s, and_true, true_and, and_self, eq_self, if_true, if_false, Nat.zero_le, Nat.reduceAdd, Nat.reduceLeDiff, gN_I, gN_L, gN_P, bI_0, bI_ok, z0, z1, Bool.true_eq, Bool.false_eq_true, not_true_eq_false, not_false_eq_true, ho2, gL_1, hf, lc_eq]
  · simp (disch := omega) only [r0_2169, r0_2170, r0_2171, r0_2173, r0_2174, r0_2175, r0_2176, r0_2177, r0_2180, r0_2182, r0_2183, r0_2184, r0_2186, r0_2187, r0_2188, r0_2189, r0_2192, r0_2194, r0_2195, r0_2198, r0_2200, r0_2203, r0_2204, r0_2205, r0_2207, r0_2210, r0_2211, r0_2212, r0_2213, r0_2215, r0_2216, r0_2217, r0_2220, r0_2221, r0_2222, gI_F, iI_add, e1, hW, hD, hth, hb, hb2, md_0, c0_, kl_n, kl_i, kl_r, kl_z, kl_l, kl_d, catS_0, catS_c, cat_i, cat_l, cat_d, cat_r, cat_n, kC_r, kC_x, Option.bind_some, Option.toList_some, Option.toList_none, List.cons_append, List.nil_append, gB0, gB1, gB2, gB3, gB4, rvB, nI_iI, i0, i1, l0_, wr_s, aup_s, and_true, true_and, and_self, eq_self, if_true, if_false, Nat.zero_le, Nat.reduceAdd, Nat.reduceLeDiff, gN_I, gN_L, gN_P, bI_0, bI_ok, z0, z1, Bool.true_eq, Bool.false_eq_true, not_true_eq_false, not_false_eq_true, iI_nz k1 k2]

theorem lc_35 (hI : lwI h b K xs x y o g) (hR : Rel W M) (hn : o < n) (hi : i + 7 ≤ K) (hK : K ≤ 3584) : lwE b K xs x y o g i n w W (L 400 0 2225 [some (.ref b), some (.ref x), some (.ref y), some (.ref o), some (.int (iI i)), l5, l6, l7, l8] [] (dkW (mdW h y M) x W, n, w, g)) := by
  obtain ⟨t1, e1, b1⟩ := iI_ex (xs ((i : Int) + 1).toNat)
  obtain ⟨t2, e2, b2⟩ := iI_ex (xs ((i : Int) + 2).toNat)
  obtain ⟨t3, e3, b3⟩ := iI_ex (xs ((i : Int) + 3).toNat)
  have A : Alk 0 [(eIA, 1)] x y g W M (fun H => aE 399 81 [.ref x, .int (iI t1), .int (iI t2), .int (iI t3)] H) (fun H => aE 400 258 [.ref y, .int (iI t1), .int (iI t2), .int (iI t3)] H) := c_bestStep (d := 387) (e := 391) (x := x) (y := y) (g := g) hR b1 b2 b3
  obtain ⟨h2, W', M', n1, w1, n', w', k, v, fo, hW, hD, hI2, ho, hR2, ht, hB, hk⟩ := wr_ok (w := w) (Wr := fun H => aE 400 28 [.ref x, .int (iI t1), .int (iI t2), .int (iI t3), .ref o] H) (P := fun _ => True) A hI hn tyT0 (by decide) (fun h' n' w' fo v hv hC ho => w_28 (d := 399) dk_0 hC ho) (fun E k hk h' n' w' hC => by
      simp only [List.mem_cons, Prod.mk.injEq, List.not_mem_nil, or_false] at hk
      obtain ⟨rfl, rfl⟩ := hk
      exact w_28_1 (d := 399) dk_0 hC)
  replace hW : aE 400 28 [.ref x, .int (iI t1), .int (iI t2), .int (iI t3), .ref o] (dkW (mdW h y M) x W, n, w, g) = some (.inl (some (.int (iI k))), (mdW (dkW h2 x W') y M, n1, w1, g)) := hW
  replace hD : aE 400 258 [.ref y, .int (iI t1), .int (iI t2), .int (iI t3)] (mdW (dkW h2 x W') y M, n1, w1, g) = some (.inl (some (.int v)), (mdW (dkW h2 x W') y M', n', w', g)) := hD
  have hth : aE 400 182 [.ref y] (mdW (dkW h2 x W') y M', n', w', g) = some (.inl (some (.int (iI k))), (mdW (dkW h2 x W') y M', n', w', g)) := by rw [r_thrown (d := 399), ht]
  have hb := lw_b (W := W) (M := M) hI
  have hb2 := lw_b2 (W := W') (M := M) hI2
  have ho2 := lw_oo (W := W') (M := M') hI2 ho
  refine ⟨h2, W', M', n', w', some (.int (iI k)), some (.int v), l7, l8, ?_, hI2, hR2, hB⟩
  rw [dm_comm (h := h2) hI2.2.2.2.2.2.1]
  rcases hk with ⟨rfl, hf, -⟩ | ⟨k1, k2⟩
  · simp (disch := omega) only [r0_2225, r0_2226, r0_2227, r0_2229, r0_2230, r0_2231, r0_2232, r0_2233, r0_2235, r0_2236, r0_2237, r0_2238, r0_2239, r0_2241, r0_2242, r0_2243, r0_2244, r0_2245, r0_2248, r0_2250, r0_2251, r0_2252, r0_2254, r0_2255, r0_2256, r0_2257, r0_2258, r0_2260, r0_2261, r0_2262, r0_2263, r0_2264, r0_2266, r0_2267, r0_2268, r0_2269, r0_2272, r0_2274, r0_2275, r0_2278, r0_2280, r0_2283, r0_2284, r0_2285, r0_2287, r0_2290, r0_2291, r0_2292, r0_2293, r0_2295, r0_2296, r0_2297, r0_2300, r0_2301, r0_2302, gI_F, iI_add, e1, e2, e3, hW, hD, hth, hb, hb2, md_0, c0_, kl_n, kl_i, kl_r, kl_z, kl_l, kl_d, catS_0, catS_c, cat_i, cat_l, cat_d, cat_r, cat_n, kC_r, kC_x, Option.bind_some, Option.toList_some, Option.toList_none, List.cons_append, List.nil_append, gB0, gB1, gB2, gB3, gB4, rvB, nI_iI, i0, i1, l0_, wr_s, aup_s, and_true, true_and, and_self, eq_self, if_true, if_false, Nat.zero_le, Nat.reduceAdd, Nat.reduceLeDiff, gN_I, gN_L, gN_P, bI_0, bI_ok, z0, z1, Bool.true_eq, Bool.false_eq_true, not_true_eq_false, not_false_eq_true, ho2, gL_1, hf, lc_eq]
  · simp (disch := omega) only [r0_2225, r0_2226, r0_2227, r0_2229, r0_2230, r0_2231, r0_2232, r0_2233, r0_2235, r0_2236, r0_2237, r0_2238, r0_2239, r0_2241, r0_2242, r0_2243, r0_2244, r0_2245, r0_2248, r0_2250, r0_2251, r0_2252, r0_2254, r0_2255, r0_2256, r0_2257, r0_2258, r0_2260, r0_2261, r0_2262, r0_2263, r0_2264, r0_2266, r0_2267, r0_2268, r0_2269, r0_2272, r0_2274, r0_2275, r0_2278, r0_2280, r0_2283, r0_2284, r0_2285, r0_2287, r0_2290, r0_2291, r0_2292, r0_2293, r0_2295, r0_2296, r0_2297, r0_2300, r0_2301, r0_2302, gI_F, iI_add, e1, e2, e3, hW, hD, hth, hb, hb2, md_0, c0_, kl_n, kl_i, kl_r, kl_z, kl_l, kl_d, catS_0, catS_c, cat_i, cat_l, cat_d, cat_r, cat_n, kC_r, kC_x, Option.bind_some, Option.toList_some, Option.toList_none, List.cons_append, List.nil_append, gB0, gB1, gB2, gB3, gB4, rvB, nI_iI, i0, i1, l0_, wr_s, aup_s, and_true, true_and, and_self, eq_self, if_true, if_false, Nat.zero_le, Nat.reduceAdd, Nat.reduceLeDiff, gN_I, gN_L, gN_P, bI_0, bI_ok, z0, z1, Bool.true_eq, Bool.false_eq_true, not_true_eq_false, not_false_eq_true, iI_nz k1 k2]

theorem lc_36 (hI : lwI h b K xs x y o g) (hR : Rel W M) (hn : o < n) (hi : i + 7 ≤ K) (hK : K ≤ 3584) : lwE b K xs x y o g i n w W (L 400 0 2305 [some (.ref b), some (.ref x), some (.ref y), some (.ref o), some (.int (iI i)), l5, l6, l7, l8] [] (dkW (mdW h y M) x W, n, w, g)) := by
  have A : Alk 2 [] x y g W M (fun H => aE 400 85 [.ref x] H) (fun H => aE 400 260 [.ref y] H) := c_digest (d := 388) (e := 391) (x := x) (y := y) (g := g) (by omega) hR
  obtain ⟨W', M', n', w', v, hv, hC, hD, hR2, hB⟩ := dr_ok (w := w) A hI hn
  obtain ⟨v, rfl⟩ := hv
  replace hC : aE 400 85 [.ref x] (dkW (mdW h y M) x W, n, w, g) = some (.inl (some (.long v)), (mdW (dkW h x W') y M, n, w, g)) := hC
  replace hD : aE 400 260 [.ref y] (mdW (dkW h x W') y M, n, w, g) = some (.inl (some (.long v)), (mdW (dkW h x W') y M', n', w', g)) := hD
  refine ⟨h, W', M', n', w', l5, l6, l7, l8, ?_, hI, hR2, hB⟩
  rw [dm_comm (h := h) (M := M') hI.2.2.2.2.2.1]
  simp (disch := omega) only [r0_2305, r0_2306, r0_2309, r0_2310, r0_2313, r0_2314, r0_2317, r0_2318, hC, hD, md_0, dk_0, lc_eq, kl_n, kl_i, kl_r, kl_z, kl_l, kl_d, catS_0, catS_c, cat_i, cat_l, cat_d, cat_r, cat_n, kC_r, kC_x, Option.bind_some, Option.toList_some, Option.toList_none, List.cons_append, List.nil_append, gB0, gB1, gB2, gB3, gB4, rvB, nI_iI, i0, i1, l0_, wr_s, aup_s, and_true, true_and, and_self, eq_self, if_true, if_false, Nat.zero_le, Nat.reduceAdd, Nat.reduceLeDiff, gN_I, gN_L, gN_P, bI_0, bI_ok, z0, z1, Bool.true_eq, Bool.false_eq_true, not_true_eq_false, not_false_eq_true]

end
