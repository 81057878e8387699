/-! ===== the law's cases ===== -/
section
variable {b K x y o i n w : Nat} {xs : Nat → Int32} {g : Nat × Nat} {W : Dk} {M : Md} {h : aHf} {l5 l6 l7 l8 : Option Value}
theorem lc_0 (hI : lwI h b K xs x y o g) (hR : Rel W M) (hn : o < n) (hi : i + 7 ≤ K) (hK : K ≤ 3584) : lwE b K xs x y o g i n w W (L 400 0 204 [some (.ref b), some (.ref x), some (.ref y), some (.ref o), some (.int (iI i)), l5, l6, l7, l8] [] (dkW (mdW h y M) x W, n, w, g)) := by
  obtain ⟨t1, e1, b1⟩ := iI_ex (xs ((i : Int) + 1).toNat)
  obtain ⟨t2, e2, b2⟩ := iI_ex (xs ((i : Int) + 2).toNat)
  obtain ⟨t3, e3, b3⟩ := iI_ex (xs ((i : Int) + 3).toNat)
  obtain ⟨t4, e4, b4⟩ := iI_ex (xs ((i : Int) + 4).toNat)
  obtain ⟨t5, e5, b5⟩ := iI_ex (xs ((i : Int) + 5).toNat)
  have A : Alk 0 [(eIA, 1), (eIS, 2)] x y g W M (fun H => aE 399 38 [.ref x, .int (iI t1), .int (iI t2), .int (iI t3), .int (iI t4), .int (iI t5)] H) (fun H => aE 400 206 [.ref y, .int (iI t1), .int (iI t2), .int (iI t3), .int (iI t4), .int (iI t5)] H) := c_write (d := 387) (e := 391) (x := x) (y := y) (g := g) hR b1 b2 b3 b4 b5
  obtain ⟨h2, W', M', n1, w1, n', w', k, v, fo, hW, hD, hI2, ho, hR2, ht, hB, hk⟩ := wr_ok (w := w) (Wr := fun H => aE 400 1 [.ref x, .int (iI t1), .int (iI t2), .int (iI t3), .int (iI t4), .int (iI t5), .ref o] H) (P := fun _ => True) A hI hn tyT0 (by decide) (fun h' n' w' fo v hv hC ho => w_1 (d := 399) dk_0 hC ho) (fun E k hk h' n' w' hC => by
      simp only [List.mem_cons, Prod.mk.injEq, List.not_mem_nil, or_false] at hk
      rcases hk with ⟨rfl, rfl⟩ | ⟨rfl, rfl⟩
      · exact w_1_1 (d := 399) dk_0 hC
      · exact w_1_2 (d := 399) dk_0 hC)
  replace hW : aE 400 1 [.ref x, .int (iI t1), .int (iI t2), .int (iI t3), .int (iI t4), .int (iI t5), .ref o] (dkW (mdW h y M) x W, n, w, g) = some (.inl (some (.int (iI k))), (mdW (dkW h2 x W') y M, n1, w1, g)) := hW
  replace hD : aE 400 206 [.ref y, .int (iI t1), .int (iI t2), .int (iI t3), .int (iI t4), .int (iI t5)] (mdW (dkW h2 x W') y M, n1, w1, g) = some (.inl (some (.int v)), (mdW (dkW h2 x W') y M', n', w', g)) := hD
  have hth : aE 400 182 [.ref y] (mdW (dkW h2 x W') y M', n', w', g) = some (.inl (some (.int (iI k))), (mdW (dkW h2 x W') y M', n', w', g)) := by rw [r_thrown (d := 399), ht]
  have hb := lw_b (W := W) (M := M) hI
  have hb2 := lw_b2 (W := W') (M := M) hI2
  have ho2 := lw_oo (W := W') (M := M') hI2 ho
  refine ⟨h2, W', M', n', w', some (.int (iI k)), some (.int v), l7, l8, ?_, hI2, hR2, hB⟩
  rw [dm_comm (h := h2) hI2.2.2.2.2.2.1]
  rcases hk with ⟨rfl, hf, -⟩ | ⟨k1, k2⟩
  · simp (disch := omega) only [r0_204, r0_205, r0_206, r0_208, r0_209, r0_210, r0_211, r0_212, r0_214, r0_215, r0_216, r0_217, r0_218, r0_220, r0_221, r0_222, r0_223, r0_224, r0_226, r0_227, r0_228, r0_229, r0_230, r0_232, r0_233, r0_234, r0_235, r0_236, r0_239, r0_241, r0_242, r0_243, r0_245, r0_246, r0_247, r0_248, r0_249, r0_251, r0_252, r0_253, r0_254, r0_255, r0_257, r0_258, r0_259, r0_260, r0_261, r0_263, r0_264, r0_265, r0_266, r0_267, r0_269, r0_270, r0_271, r0_272, r0_275, r0_277, r0_278, r0_281, r0_283, r0_286, r0_287, r0_288, r0_290, r0_293, r0_294, r0_295, r0_296, r0_298, r0_299, r0_300, r0_303, r0_304, r0_305, gI_F, iI_add, e1, e2, e3, e4, e5, hW, hD, hth, hb, hb2, md_0, c0_, kl_n, kl_i, kl_r, kl_z, kl_l, kl_d, catS_0, catS_c, cat_i, cat_l, cat_d, cat_r, cat_n, kC_r, kC_x, Option.bind_some, Option.toList_some, Option.toList_none, List.cons_append, List.nil_append, gB0, gB1, gB2, gB3, gB4, rvB, nI_iI, i0, i1, l0_, wr_s, aup_s, and_true, true_and, and_self, eq_self, if_true, if_false, Nat.zero_le, Nat.reduceAdd, Nat.reduceLeDiff, gN_I, gN_L, gN_P, bI_0, bI_ok, z0, z1, Bool.true_eq, Bool.false_eq_true, not_true_eq_false, not_false_eq_true, ho2, gL_1, hf, lc_eq]
  · simp (disch := omega) only [r0_204, r0_205, r0_206, r0_208, r0_209, r0_210, r0_211, r0_212, r0_214, r0_215, r0_216, r0_217, r0_218, r0_220, r0_221, r0_222, r0_223, r0_224, r0_226, r0_227, r0_228, r0_229, r0_230, r0_232, r0_233, r0_234, r0_235, r0_236, r0_239, r0_241, r0_242, r0_243, r0_245, r0_246, r0_247, r0_248, r0_249, r0_251, r0_252, r0_253, r0_254, r0_255, r0_257, r0_258, r0_259, r0_260, r0_261, r0_263, r0_264, r0_265, r0_266, r0_267, r0_269, r0_270, r0_271, r0_272, r0_275, r0_277, r0_278, r0_281, r0_283, r0_286, r0_287, r0_288, r0_290, r0_293, r0_294, r0_295, r0_296, r0_298, r0_299, r0_300, r0_303, r0_304, r0_305, gI_F, iI_add, e1, e2, e3, e4, e5, hW, hD, hth, hb, hb2, md_0, c0_, kl_n, kl_i, kl_r, kl_z, kl_l, kl_d, catS_0, catS_c, cat_i, cat_l, cat_d, cat_r, cat_n, kC_r, kC_x, Option.bind_some, Option.toList_some, Option.toList_none, List.cons_append, List.nil_append, gB0, gB1, gB2, gB3, gB4, rvB, nI_iI, i0, i1, l0_, wr_s, aup_s, and_true, true_and, and_self, eq_self, if_true, if_false, Nat.zero_le, Nat.reduceAdd, Nat.reduceLeDiff, gN_I, gN_L, gN_P, bI_0, bI_ok, z0, z1, Bool.true_eq, Bool.false_eq_true, not_true_eq_false, not_false_eq_true, iI_nz k1 k2]

theorem lc_1 (hI : lwI h b K xs x y o g) (hR : Rel W M) (hn : o < n) (hi : i + 7 ≤ K) (hK : K ≤ 3584) : lwE b K xs x y o g i n w W (L 400 0 308 [some (.ref b), some (.ref x), some (.ref y), some (.ref o), some (.int (iI i)), l5, l6, l7, l8] [] (dkW (mdW h y M) x W, n, w, g)) := by
  obtain ⟨t1, e1, b1⟩ := iI_ex (xs ((i : Int) + 1).toNat)
  have A : Alk 0 [(eIO, 1)] x y g W M (fun H => aE 399 39 [.ref x, .int (iI t1)] H) (fun H => aE 400 207 [.ref y, .int (iI t1)] H) := c_remove (d := 387) (e := 391) (x := x) (y := y) (g := g) hR b1
  obtain ⟨h2, W', M', n1, w1, n', w', k, v, fo, hW, hD, hI2, ho, hR2, ht, hB, hk⟩ := wr_ok (w := w) (Wr := fun H => aE 400 2 [.ref x, .int (iI t1), .ref o] H) (P := fun _ => True) A hI hn tyT0 (by decide) (fun h' n' w' fo v hv hC ho => w_2 (d := 399) dk_0 hC ho) (fun E k hk h' n' w' hC => by
      simp only [List.mem_cons, Prod.mk.injEq, List.not_mem_nil, or_false] at hk
      obtain ⟨rfl, rfl⟩ := hk
      exact w_2_1 (d := 399) dk_0 hC)
  replace hW : aE 400 2 [.ref x, .int (iI t1), .ref o] (dkW (mdW h y M) x W, n, w, g) = some (.inl (some (.int (iI k))), (mdW (dkW h2 x W') y M, n1, w1, g)) := hW
  replace hD : aE 400 207 [.ref y, .int (iI t1)] (mdW (dkW h2 x W') y M, n1, w1, g) = some (.inl (some (.int v)), (mdW (dkW h2 x W') y M', n', w', g)) := hD
  have hth : aE 400 182 [.ref y] (mdW (dkW h2 x W') y M', n', w', g) = some (.inl (some (.int (iI k))), (mdW (dkW h2 x W') y M', n', w', g)) := by rw [r_thrown (d := 399), ht]
  have hb := lw_b (W := W) (M := M) hI
  have hb2 := lw_b2 (W := W') (M := M) hI2
  have ho2 := lw_oo (W := W') (M := M') hI2 ho
  refine ⟨h2, W', M', n', w', some (.int (iI k)), some (.int v), l7, l8, ?_, hI2, hR2, hB⟩
  rw [dm_comm (h := h2) hI2.2.2.2.2.2.1]
  rcases hk with ⟨rfl, hf, -⟩ | ⟨k1, k2⟩
  · simp (disch := omega) only [r0_308, r0_309, r0_310, r0_312, r0_313, r0_314, r0_315, r0_316, r0_319, r0_321, r0_322, r0_323, r0_325, r0_326, r0_327, r0_328, r0_331, r0_333, r0_334, r0_337, r0_339, r0_342, r0_343, r0_344, r0_346, r0_349, r0_350, r0_351, r0_352, r0_354, r0_355, r0_356, r0_359, r0_360, r0_361, gI_F, iI_add, e1, hW, hD, hth, hb, hb2, md_0, c0_, kl_n, kl_i, kl_r, kl_z, kl_l, kl_d, catS_0, catS_c, cat_i, cat_l, cat_d, cat_r, cat_n, kC_r, kC_x, Option.bind_some, Option.toList_some, Option.toList_none, List.cons_append, List.nil_append, gB0, gB1, gB2, gB3, gB4, rvB, nI_iI, i0, i1, l0_, wr_s, aup_s, and_true, true_and, and_self, eq_self, if_true, if_false, Nat.zero_le, Nat.reduceAdd, Nat.reduceLeDiff, gN_I, gN_L, gN_P, bI_0, bI_ok, z0, z1, Bool.true_eq, Bool.false_eq_true, not_true_eq_false, not_false_eq_true, ho2, gL_1, hf, lc_eq]
  · simp (disch := omega) only [r0_308, r0_309, r0_310, r0_312, r0_313, r0_314, r0_315, r0_316, r0_319, r0_321, r0_322, r0_323, r0_325, r0_326, r0_327, r0_328, r0_331, r0_333, r0_334, r0_337, r0_339, r0_342, r0_343, r0_344, r0_346, r0_349, r0_350, r0_351, r0_352, r0_354, r0_355, r0_356, r0_359, r0_360, r0_361, gI_F, iI_add, e1, hW, hD, hth, hb, hb2, md_0, c0_, kl_n, kl_i, kl_r, kl_z, kl_l, kl_d, catS_0, catS_c, cat_i, cat_l, cat_d, cat_r, cat_n, kC_r, kC_x, Option.bind_some, Option.toList_some, Option.toList_none, List.cons_append, List.nil_append, gB0, gB1, gB2, gB3, gB4, rvB, nI_iI, i0, i1, l0_, wr_s, aup_s, and_true, true_and, and_self, eq_self, if_true, if_false, Nat.zero_le, Nat.reduceAdd, Nat.reduceLeDiff, gN_I, gN_L, gN_P, bI_0, bI_ok, z0, z1, Bool.true_eq, Bool.false_eq_true, not_true_eq_false, not_false_eq_true, iI_nz k1 k2]

theorem lc_2 (hI : lwI h b K xs x y o g) (hR : Rel W M) (hn : o < n) (hi : i + 7 ≤ K) (hK : K ≤ 3584) : lwE b K xs x y o g i n w W (L 400 0 364 [some (.ref b), some (.ref x), some (.ref y), some (.ref o), some (.int (iI i)), l5, l6, l7, l8] [] (dkW (mdW h y M) x W, n, w, g)) := by
  obtain ⟨t1, e1, b1⟩ := iI_ex (xs ((i : Int) + 1).toNat)
  obtain ⟨t2, e2, b2⟩ := iI_ex (xs ((i : Int) + 2).toNat)
  have A : Alk 0 [(eIO, 1), (eIA, 2), (eIS, 3)] x y g W M (fun H => aE 399 40 [.ref x, .int (iI t1), .int (iI t2)] H) (fun H => aE 400 208 [.ref y, .int (iI t1), .int (iI t2)] H) := c_split (d := 387) (e := 391) (x := x) (y := y) (g := g) hR b1 b2
  obtain ⟨h2, W', M', n1, w1, n', w', k, v, fo, hW, hD, hI2, ho, hR2, ht, hB, hk⟩ := wr_ok (w := w) (Wr := fun H => aE 400 3 [.ref x, .int (iI t1), .int (iI t2), .ref o] H) (P := fun _ => True) A hI hn tyT0 (by decide) (fun h' n' w' fo v hv hC ho => w_3 (d := 399) dk_0 hC ho) (fun E k hk h' n' w' hC => by
      simp only [List.mem_cons, Prod.mk.injEq, List.not_mem_nil, or_false] at hk
      rcases hk with ⟨rfl, rfl⟩ | ⟨rfl, rfl⟩ | ⟨rfl, rfl⟩
      · exact w_3_1 (d := 399) dk_0 hC
      · exact w_3_2 (d := 399) dk_0 hC
      · exact w_3_3 (d := 399) dk_0 hC)
  replace hW : aE 400 3 [.ref x, .int (iI t1), .int (iI t2), .ref o] (dkW (mdW h y M) x W, n, w, g) = some (.inl (some (.int (iI k))), (mdW (dkW h2 x W') y M, n1, w1, g)) := hW
  replace hD : aE 400 208 [.ref y, .int (iI t1), .int (iI t2)] (mdW (dkW h2 x W') y M, n1, w1, g) = some (.inl (some (.int v)), (mdW (dkW h2 x W') y M', n', w', g)) := hD
  have hth : aE 400 182 [.ref y] (mdW (dkW h2 x W') y M', n', w', g) = some (.inl (some (.int (iI k))), (mdW (dkW h2 x W') y M', n', w', g)) := by rw [r_thrown (d := 399), ht]
  have hb := lw_b (W := W) (M := M) hI
  have hb2 := lw_b2 (W := W') (M := M) hI2
  have ho2 := lw_oo (W := W') (M := M') hI2 ho
  refine ⟨h2, W', M', n', w', some (.int (iI k)), some (.int v), l7, l8, ?_, hI2, hR2, hB⟩
  rw [dm_comm (h := h2) hI2.2.2.2.2.2.1]
  rcases hk with ⟨rfl, hf, -⟩ | ⟨k1, k2⟩
  · simp (disch := omega) only [r0_364, r0_365, r0_366, r0_368, r0_369, r0_370, r0_371, r0_372, r0_374, r0_375, r0_376, r0_377, r0_378, r0_381, r0_383, r0_384, r0_385, r0_387, r0_388, r0_389, r0_390, r0_391, r0_393, r0_394, r0_395, r0_396, r0_399, r0_401, r0_402, r0_405, r0_407, r0_410, r0_411, r0_412, r0_414, r0_417, r0_418, r0_419, r0_420, r0_422, r0_423, r0_424, r0_427, r0_428, r0_429, gI_F, iI_add, e1, e2, hW, hD, hth, hb, hb2, md_0, c0_, kl_n, kl_i, kl_r, kl_z, kl_l, kl_d, catS_0, catS_c, cat_i, cat_l, cat_d, cat_r, cat_n, kC_r, kC_x, Option.bind_some, Option.toList_some, Option.toList_none, List.cons_append, List.nil_append, gB0, gB1, gB2, gB3, gB4, rvB, nI_iI, i0, i1, l0_, wr_s, aup_s, and_true, true_and, and_self, eq_self, if_true, if_false, Nat.zero_le, Nat.reduceAdd, Nat.reduceLeDiff, gN_I, gN_L, gN_P, bI_0, bI_ok, z0, z1, Bool.true_eq, Bool.false_eq_true, not_true_eq_false, not_false_eq_true, ho2, gL_1, hf, lc_eq]
  · simp (disch := omega) only [r0_364, r0_365, r0_366, r0_368, r0_369, r0_370, r0_371, r0_372, r0_374, r0_375, r0_376, r0_377, r0_378, r0_381, r0_383, r0_384, r0_385, r0_387, r0_388, r0_389, r0_390, r0_391, r0_393, r0_394, r0_395, r0_396, r0_399, r0_401, r0_402, r0_405, r0_407, r0_410, r0_411, r0_412, r0_414, r0_417, r0_418, r0_419, r0_420, r0_422, r0_423, r0_424, r0_427, r0_428, r0_429, gI_F, iI_add, e1, e2, hW, hD, hth, hb, hb2, md_0, c0_, kl_n, kl_i, kl_r, kl_z, kl_l, kl_d, catS_0, catS_c, cat_i, cat_l, cat_d, cat_r, cat_n, kC_r, kC_x, Option.bind_some, Option.toList_some, Option.toList_none, List.cons_append, List.nil_append, gB0, gB1, gB2, gB3, gB4, rvB, nI_iI, i0, i1, l0_, wr_s, aup_s, and_true, true_and, and_self, eq_self, if_true, if_false, Nat.zero_le, Nat.reduceAdd, Nat.reduceLeDiff, gN_I, gN_L, gN_P, bI_0, bI_ok, z0, z1, Bool.true_eq, Bool.false_eq_true, not_true_eq_false, not_false_eq_true, iI_nz k1 k2]

theorem lc_3 (hI : lwI h b K xs x y o g) (hR : Rel W M) (hn : o < n) (hi : i + 7 ≤ K) (hK : K ≤ 3584) : lwE b K xs x y o g i n w W (L 400 0 432 [some (.ref b), some (.ref x), some (.ref y), some (.ref o), some (.int (iI i)), l5, l6, l7, l8] [] (dkW (mdW h y M) x W, n, w, g)) := by
  obtain ⟨t1, e1, b1⟩ := iI_ex (xs ((i : Int) + 1).toNat)
  obtain ⟨t2, e2, b2⟩ := iI_ex (xs ((i : Int) + 2).toNat)
  obtain ⟨t3, e3, b3⟩ := iI_ex (xs ((i : Int) + 3).toNat)
  obtain ⟨t4, e4, b4⟩ := iI_ex (xs ((i : Int) + 4).toNat)
  have A : Alk 0 [(eIA, 1), (eIS, 2)] x y g W M (fun H => aE 399 44 [.ref x, .int (iI t1), .int (iI t2), .int (iI t3), .int (iI t4)] H) (fun H => aE 400 209 [.ref y, .int (iI t1), .int (iI t2), .int (iI t3), .int (iI t4)] H) := c_transpose (d := 387) (e := 391) (x := x) (y := y) (g := g) hR b1 b2 b3 b4
  obtain ⟨h2, W', M', n1, w1, n', w', k, v, fo, hW, hD, hI2, ho, hR2, ht, hB, hk⟩ := wr_ok (w := w) (Wr := fun H => aE 400 4 [.ref x, .int (iI t1), .int (iI t2), .int (iI t3), .int (iI t4), .ref o] H) (P := fun _ => True) A hI hn tyT0 (by decide) (fun h' n' w' fo v hv hC ho => w_4 (d := 399) dk_0 hC ho) (fun E k hk h' n' w' hC => by
      simp only [List.mem_cons, Prod.mk.injEq, List.not_mem_nil, or_false] at hk
      rcases hk with ⟨rfl, rfl⟩ | ⟨rfl, rfl⟩
      · exact w_4_1 (d := 399) dk_0 hC
      · exact w_4_2 (d := 399) dk_0 hC)
  replace hW : aE 400 4 [.ref x, .int (iI t1), .int (iI t2), .int (iI t3), .int (iI t4), .ref o] (dkW (mdW h y M) x W, n, w, g) = some (.inl (some (.int (iI k))), (mdW (dkW h2 x W') y M, n1, w1, g)) := hW
  replace hD : aE 400 209 [.ref y, .int (iI t1), .int (iI t2), .int (iI t3), .int (iI t4)] (mdW (dkW h2 x W') y M, n1, w1, g) = some (.inl (some (.int v)), (mdW (dkW h2 x W') y M', n', w', g)) := hD
  have hth : aE 400 182 [.ref y] (mdW (dkW h2 x W') y M', n', w', g) = some (.inl (some (.int (iI k))), (mdW (dkW h2 x W') y M', n', w', g)) := by rw [r_thrown (d := 399), ht]
  have hb := lw_b (W := W) (M := M) hI
  have hb2 := lw_b2 (W := W') (M := M) hI2
  have ho2 := lw_oo (W := W') (M := M') hI2 ho
  refine ⟨h2, W', M', n', w', some (.int (iI k)), some (.int v), l7, l8, ?_, hI2, hR2, hB⟩
  rw [dm_comm (h := h2) hI2.2.2.2.2.2.1]
  rcases hk with ⟨rfl, hf, -⟩ | ⟨k1, k2⟩
  · simp (disch := omega) only [r0_432, r0_433, r0_434, r0_436, r0_437, r0_438, r0_439, r0_440, r0_442, r0_443, r0_444, r0_445, r0_446, r0_448, r0_449, r0_450, r0_451, r0_452, r0_454, r0_455, r0_456, r0_457, r0_458, r0_461, r0_463, r0_464, r0_465, r0_467, r0_468, r0_469, r0_470, r0_471, r0_473, r0_474, r0_475, r0_476, r0_477, r0_479, r0_480, r0_481, r0_482, r0_483, r0_485, r0_486, r0_487, r0_488, r0_491, r0_493, r0_494, r0_497, r0_499, r0_502, r0_503, r0_504, r0_506, r0_509, r0_510, r0_511, r0_512, r0_514, r0_515, r0_516, r0_519, r0_520, r0_521, gI_F, iI_add, e1, e2, e3, e4, hW, hD, hth, hb, hb2, md_0, c0_, kl_n, kl_i, kl_r, kl_z, kl_l, kl_d, catS_0, catS_c, cat_i, cat_l, cat_d, cat_r, cat_n, kC_r, kC_x, Option.bind_some, Option.toList_some, Option.toList_none, List.cons_append, List.nil_append, gB0, gB1, gB2, gB3, gB4, rvB, nI_iI, i0, i1, l0_, wr_s, aup_s, and_true, true_and, and_self, eq_self, if_true, if_false, Nat.zero_le, Nat.reduceAdd, Nat.reduceLeDiff, gN_I, gN_L, gN_P, bI_0, bI_ok, z0, z1, Bool.true_eq, Bool.false_eq_true, not_true_eq_false, not_false_eq_true, ho2, gL_1, hf, lc_eq]
  · simp (disch := omega) only [r0_432, r0_433, r0_434, r0_436, r0_437, r0_438, r0_439, r0_440, r0_442, r0_443, r0_444, r0_445, r0_446, r0_448, r0_449, r0_450, r0_451, r0_452, r0_454, r0_455, r0_456, r0_457, r0_458, r0_461, r0_463, r0_464, r0_465, r0_467, r0_468, r0_469, r0_470, r0_471, r0_473, r0_474, r0_475, r0_476, r0_477, r0_479, r0_480, r0_481, r0_482, r0_483, r0_485, r0_486, r0_487, r0_488, r0_491, r0_493, r0_494, r0_497, r0_499, r0_502, r0_503, r0_504, r0_506, r0_509, r0_510, r0_511, r0_512, r0_514, r0_515, r0_516, r0_519, r0_520, r0_521, gI_F, iI_add, e1, e2, e3, e4, hW, hD, hth, hb, hb2, md_0, c0_, kl_n, kl_i, kl_r, kl_z, kl_l, kl_d, catS_0, catS_c, cat_i, cat_l, cat_d, cat_r, cat_n, kC_r, kC_x, Option.bind_some, Option.toList_some, Option.toList_none, List.cons_append, List.nil_append, gB0, gB1, gB2, gB3, gB4, rvB, nI_iI, i0, i1, l0_, wr_s, aup_s, and_true, true_and, and_self, eq_self, if_true, if_false, Nat.zero_le, Nat.reduceAdd, Nat.reduceLeDiff, gN_I, gN_L, gN_P, bI_0, bI_ok, z0, z1, Bool.true_eq, Bool.false_eq_true, not_true_eq_false, not_false_eq_true, iI_nz k1 k2]

theorem lc_4 (hI : lwI h b K xs x y o g) (hR : Rel W M) (hn : o < n) (hi : i + 7 ≤ K) (hK : K ≤ 3584) : lwE b K xs x y o g i n w W (L 400 0 524 [some (.ref b), some (.ref x), some (.ref y), some (.ref o), some (.int (iI i)), l5, l6, l7, l8] [] (dkW (mdW h y M) x W, n, w, g)) := by
  obtain ⟨t1, e1, b1⟩ := iI_ex (xs ((i : Int) + 1).toNat)
  obtain ⟨t2, e2, b2⟩ := iI_ex (xs ((i : Int) + 2).toNat)
  obtain ⟨t3, e3, b3⟩ := iI_ex (xs ((i : Int) + 3).toNat)
  obtain ⟨t4, e4, b4⟩ := iI_ex (xs ((i : Int) + 4).toNat)
  have A : Alk 0 [(eIA, 1)] x y g W M (fun H => aE 399 45 [.ref x, .int (iI t1), .int (iI t2), .int (iI t3), .int (iI t4)] H) (fun H => aE 400 210 [.ref y, .int (iI t1), .int (iI t2), .int (iI t3), .int (iI t4)] H) := c_weigh (d := 387) (e := 391) (x := x) (y := y) (g := g) hR b1 b2 b3 b4
  obtain ⟨h2, W', M', n1, w1, n', w', k, v, fo, hW, hD, hI2, ho, hR2, ht, hB, hk⟩ := wr_ok (w := w) (Wr := fun H => aE 400 5 [.ref x, .int (iI t1), .int (iI t2), .int (iI t3), .int (iI t4), .ref o] H) (P := fun _ => True) A hI hn tyT0 (by decide) (fun h' n' w' fo v hv hC ho => w_5 (d := 399) dk_0 hC ho) (fun E k hk h' n' w' hC => by
      simp only [List.mem_cons, Prod.mk.injEq, List.not_mem_nil, or_false] at hk
      obtain ⟨rfl, rfl⟩ := hk
      exact w_5_1 (d := 399) dk_0 hC)
  replace hW : aE 400 5 [.ref x, .int (iI t1), .int (iI t2), .int (iI t3), .int (iI t4), .ref o] (dkW (mdW h y M) x W, n, w, g) = some (.inl (some (.int (iI k))), (mdW (dkW h2 x W') y M, n1, w1, g)) := hW
  replace hD : aE 400 210 [.ref y, .int (iI t1), .int (iI t2), .int (iI t3), .int (iI t4)] (mdW (dkW h2 x W') y M, n1, w1, g) = some (.inl (some (.int v)), (mdW (dkW h2 x W') y M', n', w', g)) := hD
  have hth : aE 400 182 [.ref y] (mdW (dkW h2 x W') y M', n', w', g) = some (.inl (some (.int (iI k))), (mdW (dkW h2 x W') y M', n', w', g)) := by rw [r_thrown (d := 399), ht]
  have hb := lw_b (W := W) (M := M) hI
  have hb2 := lw_b2 (W := W') (M := M) hI2
  have ho2 := lw_oo (W := W') (M := M') hI2 ho
  refine ⟨h2, W', M', n', w', some (.int (iI k)), some (.int v), l7, l8, ?_, hI2, hR2, hB⟩
  rw [dm_comm (h := h2) hI2.2.2.2.2.2.1]
  rcases hk with ⟨rfl, hf, -⟩ | ⟨k1, k2⟩
  · simp (disch := omega) only [r0_524, r0_525, r0_526, r0_528, r0_529, r0_530, r0_531, r0_532, r0_534, r0_535, r0_536, r0_537, r0_538, r0_540, r0_541, r0_542, r0_543, r0_544, r0_546, r0_547, r0_548, r0_549, r0_550, r0_553, r0_555, r0_556, r0_557, r0_559, r0_560, r0_561, r0_562, r0_563, r0_565, r0_566, r0_567, r0_568, r0_569, r0_571, r0_572, r0_573, r0_574, r0_575, r0_577, r0_578, r0_579, r0_580, r0_583, r0_585, r0_586, r0_589, r0_591, r0_594, r0_595, r0_596, r0_598, r0_601, r0_602, r0_603, r0_604, r0_606, r0_607, r0_608, r0_611, r0_612, r0_613, gI_F, iI_add, e1, e2, e3, e4, hW, hD, hth, hb, hb2, md_0, c0_, kl_n, kl_i, kl_r, kl_z, kl_l, kl_d, catS_0, catS_c, cat_i, cat_l, cat_d, cat_r, cat_n, kC_r, kC_x, Option.bind_some, Option.toList_some, Option.toList_none, List.cons_append, List.nil_append, gB0, gB1, gB2, gB3, gB4, rvB, nI_iI, i0, i1, l0_, wr_s, aup_s, and_true, true_and, and_self, eq_self, if_true, if_false, Nat.zero_le, Nat.reduceAdd, Nat.reduceLeDiff, gN_I, gN_L, gN_P, bI_0, bI_ok, z0, z1, Bool.true_eq, Bool.false_eq_true, not_true_eq_false, not_false_eq_true, ho2, gL_1, hf, lc_eq]
  · simp (disch := omega) only [r0_524, r0_525, r0_526, r0_528, r0_529, r0_530, r0_531, r0_532, r0_534, r0_535, r0_536, r0_537, r0_538, r0_540, r0_541, r0_542, r0_543, r0_544, r0_546, r0_547, r0_548, r0_549, r0_550, r0_553, r0_555, r0_556, r0_557, r0_559, r0_560, r0_561, r0_562, r0_563, r0_565, r0_566, r0_567, r0_568, r0_569, r0_571, r0_572, r0_573, r0_574, r0_575, r0_577, r0_578, r0_579, r0_580, r0_583, r0_585, r0_586, r0_589, r0_591, r0_594, r0_595, r0_596, r0_598, r0_601, r0_602, r0_603, r0_604, r0_606, r0_607, r0_608, r0_611, r0_612, r0_613, gI_F, iI_add, e1, e2, e3, e4, hW, hD, hth, hb, hb2, md_0, c0_, kl_n, kl_i, kl_r, kl_z, kl_l, kl_d, catS_0, catS_c, cat_i, cat_l, cat_d, cat_r, cat_n, kC_r, kC_x, Option.bind_some, Option.toList_some, Option.toList_none, List.cons_append, List.nil_append, gB0, gB1, gB2, gB3, gB4, rvB, nI_iI, i0, i1, l0_, wr_s, aup_s, and_true, true_and, and_self, eq_self, if_true, if_false, Nat.zero_le, Nat.reduceAdd, Nat.reduceLeDiff, gN_I, gN_L, gN_P, bI_0, bI_ok, z0, z1, Bool.true_eq, Bool.false_eq_true, not_true_eq_false, not_false_eq_true, iI_nz k1 k2]

theorem lc_5 (hI : lwI h b K xs x y o g) (hR : Rel W M) (hn : o < n) (hi : i + 7 ≤ K) (hK : K ≤ 3584) : lwE b K xs x y o g i n w W (L 400 0 616 [some (.ref b), some (.ref x), some (.ref y), some (.ref o), some (.int (iI i)), l5, l6, l7, l8] [] (dkW (mdW h y M) x W, n, w, g)) := by
  obtain ⟨t1, e1, b1⟩ := iI_ex (xs ((i : Int) + 1).toNat)
  obtain ⟨t2, e2, b2⟩ := iI_ex (xs ((i : Int) + 2).toNat)
  obtain ⟨t3, e3, b3⟩ := iI_ex (xs ((i : Int) + 3).toNat)
  obtain ⟨t4, e4, b4⟩ := iI_ex (xs ((i : Int) + 4).toNat)
  obtain ⟨t5, e5, b5⟩ := iI_ex (xs ((i : Int) + 5).toNat)
  obtain ⟨t6, e6, b6⟩ := iI_ex (xs ((i : Int) + 6).toNat)
  have A : Alk 0 [(eIA, 1)] x y g W M (fun H => aE 399 48 [.ref x, .int (iI t1), .int (iI t2), .int (iI t3), .int (iI t4), .int (iI t5), .int (iI t6)] H) (fun H => aE 400 213 [.ref y, .int (iI t1), .int (iI t2), .int (iI t3), .int (iI t4), .int (iI t5), .int (iI t6)] H) := c_quantise (d := 387) (e := 391) (x := x) (y := y) (g := g) hR b1 b2 b3 b4 b5 b6
  obtain ⟨h2, W', M', n1, w1, n', w', k, v, fo, hW, hD, hI2, ho, hR2, ht, hB, hk⟩ := wr_ok (w := w) (Wr := fun H => aE 400 6 [.ref x, .int (iI t1), .int (iI t2), .int (iI t3), .int (iI t4), .int (iI t5), .int (iI t6), .ref o] H) (P := fun _ => True) A hI hn tyT0 (by decide) (fun h' n' w' fo v hv hC ho => w_6 (d := 399) dk_0 hC ho) (fun E k hk h' n' w' hC => by
      simp only [List.mem_cons, Prod.mk.injEq, List.not_mem_nil, or_false] at hk
      obtain ⟨rfl, rfl⟩ := hk
      exact w_6_1 (d := 399) dk_0 hC)
  replace hW : aE 400 6 [.ref x, .int (iI t1), .int (iI t2), .int (iI t3), .int (iI t4), .int (iI t5), .int (iI t6), .ref o] (dkW (mdW h y M) x W, n, w, g) = some (.inl (some (.int (iI k))), (mdW (dkW h2 x W') y M, n1, w1, g)) := hW
  replace hD : aE 400 213 [.ref y, .int (iI t1), .int (iI t2), .int (iI t3), .int (iI t4), .int (iI t5), .int (iI t6)] (mdW (dkW h2 x W') y M, n1, w1, g) = some (.inl (some (.int v)), (mdW (dkW h2 x W') y M', n', w', g)) := hD
  have hth : aE 400 182 [.ref y] (mdW (dkW h2 x W') y M', n', w', g) = some (.inl (some (.int (iI k))), (mdW (dkW h2 x W') y M', n', w', g)) := by rw [r_thrown (d := 399), ht]
  have hb := lw_b (W := W) (M := M) hI
  have hb2 := lw_b2 (W := W') (M := M) hI2
  have ho2 := lw_oo (W := W') (M := M') hI2 ho
  refine ⟨h2, W', M', n', w', some (.int (iI k)), some (.int v), l7, l8, ?_, hI2, hR2, hB⟩
  rw [dm_comm (h := h2) hI2.2.2.2.2.2.1]
  rcases hk with ⟨rfl, hf, -⟩ | ⟨k1, k2⟩
  · simp (disch := omega) only [r0_616, r0_617, r0_618, r0_620, r0_621, r0_622, r0_623, r0_624, r0_626, r0_627, r0_628, r0_629, r0_630, r0_632, r0_633, r0_634, r0_635, r0_636, r0_638, r0_639, r0_640, r0_641, r0_642, r0_644, r0_645, r0_646, r0_647, r0_648, r0_650, r0_652, r0_653, r0_654, r0_655, r0_658, r0_660, r0_661, r0_662, r0_664, r0_665, r0_666, r0_667, r0_668, r0_670, r0_671, r0_672, r0_673, r0_674, r0_676, r0_677, r0_678, r0_679, r0_680, r0_682, r0_683, r0_684, r0_685, r0_686, r0_688, r0_689, r0_690, r0_691, r0_692, r0_694, r0_696, r0_697, r0_698, r0_701, r0_703, r0_704, r0_707, r0_709, r0_712, r0_713, r0_714, r0_716, r0_719, r0_720, r0_721, r0_722, r0_724, r0_725, r0_726, r0_729, r0_730, r0_731, gI_F, iI_add, e1, e2, e3, e4, e5, e6, hW, hD, hth, hb, hb2, md_0, c0_, kl_n, kl_i, kl_r, kl_z, kl_l, kl_d, catS_0, catS_c, cat_i, cat_l, cat_d, cat_r, cat_n, kC_r, kC_x, Option.bind_some, Option.toList_some, Option.toList_none, List.cons_append, List.nil_append, gB0, gB1, gB2, gB3, gB4, rvB, nI_iI, i0, i1, l0_, wr_s, aup_s, and_true, true_and, and_self, eq_self, if_true, if_false, Nat.zero_le, Nat.reduceAdd, Nat.reduceLeDiff, gN_I, gN_L, gN_P, bI_0, bI_ok, z0, z1, Bool.true_eq, Bool.false_eq_true, not_true_eq_false, not_false_eq_true, ho2, gL_1, hf, lc_eq]
  · simp (disch := omega) only [r0_616, r0_617, r0_618, r0_620, r0_621, r0_622, r0_623, r0_624, r0_626, r0_627, r0_628, r0_629, r0_630, r0_632, r0_633, r0_634, r0_635, r0_636, r0_638, r0_639, r0_640, r0_641, r0_642, r0_644, r0_645, r0_646, r0_647, r0_648, r0_650, r0_652, r0_653, r0_654, r0_655, r0_658, r0_660, r0_661, r0_662, r0_664, r0_665, r0_666, r0_667, r0_668, r0_670, r0_671, r0_672, r0_673, r0_674, r0_676, r0_677, r0_678, r0_679, r0_680, r0_682, r0_683, r0_684, r0_685, r0_686, r0_688, r0_689, r0_690, r0_691, r0_692, r0_694, r0_696, r0_697, r0_698, r0_701, r0_703, r0_704, r0_707, r0_709, r0_712, r0_713, r0_714, r0_716, r0_719, r0_720, r0_721, r0_722, r0_724, r0_725, r0_726, r0_729, r0_730, r0_731, gI_F, iI_add, e1, e2, e3, e4, e5, e6, hW, hD, hth, hb, hb2, md_0, c0_, kl_n, kl_i, kl_r, kl_z, kl_l, kl_d, catS_0, catS_c, cat_i, cat_l, cat_d, cat_r, cat_n, kC_r, kC_x, Option.bind_some, Option.toList_some, Option.toList_none, List.cons_append, List.nil_append, gB0, gB1, gB2, gB3, gB4, rvB, nI_iI, i0, i1, l0_, wr_s, aup_s, and_true, true_and, and_self, eq_self, if_true, if_false, Nat.zero_le, Nat.reduceAdd, Nat.reduceLeDiff, gN_I, gN_L, gN_P, bI_0, bI_ok, z0, z1, Bool.true_eq, Bool.false_eq_true, not_true_eq_false, not_false_eq_true, iI_nz k1 k2]

theorem lc_6 (hI : lwI h b K xs x y o g) (hR : Rel W M) (hn : o < n) (hi : i + 7 ≤ K) (hK : K ≤ 3584) : lwE b K xs x y o g i n w W (L 400 0 734 [some (.ref b), some (.ref x), some (.ref y), some (.ref o), some (.int (iI i)), l5, l6, l7, l8] [] (dkW (mdW h y M) x W, n, w, g)) := by
  obtain ⟨t1, e1, b1⟩ := iI_ex (xs ((i : Int) + 1).toNat)
  obtain ⟨t2, e2, b2⟩ := iI_ex (xs ((i : Int) + 2).toNat)
  obtain ⟨t3, e3, b3⟩ := iI_ex (xs ((i : Int) + 3).toNat)
  have A : Alk 0 [(eIA, 1)] x y g W M (fun H => aE 399 49 [.ref x, .int (iI t1), .int (iI t2), .int (iI t3)] H) (fun H => aE 400 214 [.ref y, .int (iI t1), .int (iI t2), .int (iI t3)] H) := c_copy (d := 387) (e := 391) (x := x) (y := y) (g := g) hR b1 b2 b3
  obtain ⟨h2, W', M', n1, w1, n', w', k, v, fo, hW, hD, hI2, ho, hR2, ht, hB, hk⟩ := wr_ok (w := w) (Wr := fun H => aE 400 7 [.ref x, .int (iI t1), .int (iI t2), .int (iI t3), .ref o] H) (P := fun _ => True) A hI hn tyT0 (by decide) (fun h' n' w' fo v hv hC ho => w_7 (d := 399) dk_0 hC ho) (fun E k hk h' n' w' hC => by
      simp only [List.mem_cons, Prod.mk.injEq, List.not_mem_nil, or_false] at hk
      obtain ⟨rfl, rfl⟩ := hk
      exact w_7_1 (d := 399) dk_0 hC)
  replace hW : aE 400 7 [.ref x, .int (iI t1), .int (iI t2), .int (iI t3), .ref o] (dkW (mdW h y M) x W, n, w, g) = some (.inl (some (.int (iI k))), (mdW (dkW h2 x W') y M, n1, w1, g)) := hW
  replace hD : aE 400 214 [.ref y, .int (iI t1), .int (iI t2), .int (iI t3)] (mdW (dkW h2 x W') y M, n1, w1, g) = some (.inl (some (.int v)), (mdW (dkW h2 x W') y M', n', w', g)) := hD
  have hth : aE 400 182 [.ref y] (mdW (dkW h2 x W') y M', n', w', g) = some (.inl (some (.int (iI k))), (mdW (dkW h2 x W') y M', n', w', g)) := by rw [r_thrown (d := 399), ht]
  have hb := lw_b (W := W) (M := M) hI
  have hb2 := lw_b2 (W := W') (M := M) hI2
  have ho2 := lw_oo (W := W') (M := M') hI2 ho
  refine ⟨h2, W', M', n', w', some (.int (iI k)), some (.int v), l7, l8, ?_, hI2, hR2, hB⟩
  rw [dm_comm (h := h2) hI2.2.2.2.2.2.1]
  rcases hk with ⟨rfl, hf, -⟩ | ⟨k1, k2⟩
  · simp (disch := omega) only [r0_734, r0_735, r0_736, r0_738, r0_739, r0_740, r0_741, r0_742, r0_744, r0_745, r0_746, r0_747, r0_748, r0_750, r0_751, r0_752, r0_753, r0_754, r0_757, r0_759, r0_760, r0_761, r0_763, r0_764, r0_765, r0_766, r0_767, r0_769, r0_770, r0_771, r0_772, r0_773, r0_775, r0_776, r0_777, r0_778, r0_781, r0_783, r0_784, r0_787, r0_789, r0_792, r0_793, r0_794, r0_796, r0_799, r0_800, r0_801, r0_802, r0_804, r0_805, r0_806, r0_809, r0_810, r0_811, gI_F, iI_add, e1, e2, e3, hW, hD, hth, hb, hb2, md_0, c0_, kl_n, kl_i, kl_r, kl_z, kl_l, kl_d, catS_0, catS_c, cat_i, cat_l, cat_d, cat_r, cat_n, kC_r, kC_x, Option.bind_some, Option.toList_some, Option.toList_none, List.cons_append, List.nil_append, gB0, gB1, gB2, gB3, gB4, rvB, nI_iI, i0, i1, l0_, wr_s, aup_s, and_true, true_and, and_self, eq_self, if_true, if_false, Nat.zero_le, Nat.reduceAdd, Nat.reduceLeDiff, gN_I, gN_L, gN_P, bI_0, bI_ok, z0, z1, Bool.true_eq, Bool.false_eq_true, not_true_eq_false, not_false_eq_true, ho2, gL_1, hf, lc_eq]
  · simp (disch := omega) only [r0_734, r0_735, r0_736, r0_738, r0_739, r0_740, r0_741, r0_742, r0_744, r0_745, r0_746, r0_747, r0_748, r0_750, r0_751, r0_752, r0_753, r0_754, r0_757, r0_759, r0_760, r0_761, r0_763, r0_764, r0_765, r0_766, r0_767, r0_769, r0_770, r0_771, r0_772, r0_773, r0_775, r0_776, r0_777, r0_778, r0_781, r0_783, r0_784, r0_787, r0_789, r0_792, r0_793, r0_794, r0_796, r0_799, r0_800, r0_801, r0_802, r0_804, r0_805, r0_806, r0_809, r0_810, r0_811, gI_F, iI_add, e1, e2, e3, hW, hD, hth, hb, hb2, md_0, c0_, kl_n, kl_i, kl_r, kl_z, kl_l, kl_d, catS_0, catS_c, cat_i, cat_l, cat_d, cat_r, cat_n, kC_r, kC_x, Option.bind_some, Option.toList_some, Option.toList_none, List.cons_append, List.nil_append, gB0, gB1, gB2, gB3, gB4, rvB, nI_iI, i0, i1, l0_, wr_s, aup_s, and_true, true_and, and_self, eq_self, if_true, if_false, Nat.zero_le, Nat.reduceAdd, Nat.reduceLeDiff, gN_I, gN_L, gN_P, bI_0, bI_ok, z0, z1, Bool.true_eq, Bool.false_eq_true, not_true_eq_false, not_false_eq_true, iI_nz k1 k2]

theorem lc_7 (hI : lwI h b K xs x y o g) (hR : Rel W M) (hn : o < n) (hi : i + 7 ≤ K) (hK : K ≤ 3584) : lwE b K xs x y o g i n w W (L 400 0 814 [some (.ref b), some (.ref x), some (.ref y), some (.ref o), some (.int (iI i)), l5, l6, l7, l8] [] (dkW (mdW h y M) x W, n, w, g)) := by
  obtain ⟨t1, e1, b1⟩ := iI_ex (xs ((i : Int) + 1).toNat)
  have A : Alk 0 [(eIA, 1), (eIS, 2)] x y g W M (fun H => aE 399 50 [.ref x, .int (iI t1)] H) (fun H => aE 400 215 [.ref y, .int (iI t1)] H) := c_paste (d := 387) (e := 391) (x := x) (y := y) (g := g) hR b1
  obtain ⟨h2, W', M', n1, w1, n', w', k, v, fo, hW, hD, hI2, ho, hR2, ht, hB, hk⟩ := wr_ok (w := w) (Wr := fun H => aE 400 8 [.ref x, .int (iI t1), .ref o] H) (P := fun _ => True) A hI hn tyT0 (by decide) (fun h' n' w' fo v hv hC ho => w_8 (d := 399) dk_0 hC ho) (fun E k hk h' n' w' hC => by
      simp only [List.mem_cons, Prod.mk.injEq, List.not_mem_nil, or_false] at hk
      rcases hk with ⟨rfl, rfl⟩ | ⟨rfl, rfl⟩
      · exact w_8_1 (d := 399) dk_0 hC
      · exact w_8_2 (d := 399) dk_0 hC)
  replace hW : aE 400 8 [.ref x, .int (iI t1), .ref o] (dkW (mdW h y M) x W, n, w, g) = some (.inl (some (.int (iI k))), (mdW (dkW h2 x W') y M, n1, w1, g)) := hW
  replace hD : aE 400 215 [.ref y, .int (iI t1)] (mdW (dkW h2 x W') y M, n1, w1, g) = some (.inl (some (.int v)), (mdW (dkW h2 x W') y M', n', w', g)) := hD
  have hth : aE 400 182 [.ref y] (mdW (dkW h2 x W') y M', n', w', g) = some (.inl (some (.int (iI k))), (mdW (dkW h2 x W') y M', n', w', g)) := by rw [r_thrown (d := 399), ht]
  have hb := lw_b (W := W) (M := M) hI
  have hb2 := lw_b2 (W := W') (M := M) hI2
  have ho2 := lw_oo (W := W') (M := M') hI2 ho
  refine ⟨h2, W', M', n', w', some (.int (iI k)), some (.int v), l7, l8, ?_, hI2, hR2, hB⟩
  rw [dm_comm (h := h2) hI2.2.2.2.2.2.1]
  rcases hk with ⟨rfl, hf, -⟩ | ⟨k1, k2⟩
  · simp (disch := omega) only [r0_814, r0_815, r0_816, r0_818, r0_819, r0_820, r0_821, r0_822, r0_825, r0_827, r0_828, r0_829, r0_831, r0_832, r0_833, r0_834, r0_837, r0_839, r0_840, r0_843, r0_845, r0_848, r0_849, r0_850, r0_852, r0_855, r0_856, r0_857, r0_858, r0_860, r0_861, r0_862, r0_865, r0_866, r0_867, gI_F, iI_add, e1, hW, hD, hth, hb, hb2, md_0, c0_, kl_n, kl_i, kl_r, kl_z, kl_l, kl_d, catS_0, catS_c, cat_i, cat_l, cat_d, cat_r, cat_n, kC_r, kC_x, Option.bind_some, Option.toList_some, Option.toList_none, List.cons_append, List.nil_append, gB0, gB1, gB2, gB3, gB4, rvB, nI_iI, i0, i1, l0_, wr_s, aup_s, and_true, true_and, and_self, eq_self, if_true, if_false, Nat.zero_le, Nat.reduceAdd, Nat.reduceLeDiff, gN_I, gN_L, gN_P, bI_0, bI_ok, z0, z1, Bool.true_eq, Bool.false_eq_true, not_true_eq_false, not_false_eq_true, ho2, gL_1, hf, lc_eq]
  · simp (disch := omega) only [r0_814, r0_815, r0_816, r0_818, r0_819, r0_820, r0_821, r0_822, r0_825, r0_827, r0_828, r0_829, r0_831, r0_832, r0_833, r0_834, r0_837, r0_839, r0_840, r0_843, r0_845, r0_848, r0_849, r0_850, r0_852, r0_855, r0_856, r0_857, r0_858, r0_860, r0_861, r0_862, r0_865, r0_866, r0_867, gI_F, iI_add, e1, hW, hD, hth, hb, hb2, md_0, c0_, kl_n, kl_i, kl_r, kl_z, kl_l, kl_d, catS_0, catS_c, cat_i, cat_l, cat_d, cat_r, cat_n, kC_r, kC_x, Option.bind_some, Option.toList_some, Option.toList_none, List.cons_append, List.nil_append, gB0, gB1, gB2, gB3, gB4, rvB, nI_iI, i0, i1, l0_, wr_s, aup_s, and_true, true_and, and_self, eq_self, if_true, if_false, Nat.zero_le, Nat.reduceAdd, Nat.reduceLeDiff, gN_I, gN_L, gN_P, bI_0, bI_ok, z0, z1, Bool.true_eq, Bool.false_eq_true, not_true_eq_false, not_false_eq_true, iI_nz k1 k2]

theorem lc_8 (hI : lwI h b K xs x y o g) (hR : Rel W M) (hn : o < n) (hi : i + 7 ≤ K) (hK : K ≤ 3584) : lwE b K xs x y o g i n w W (L 400 0 870 [some (.ref b), some (.ref x), some (.ref y), some (.ref o), some (.int (iI i)), l5, l6, l7, l8] [] (dkW (mdW h y M) x W, n, w, g)) := by
  have A : Alk 0 [] x y g W M (fun H => aE 400 51 [.ref x] H) (fun H => aE 400 216 [.ref y] H) := c_notes (d := 388) (e := 391) (x := x) (y := y) (g := g) hR
  obtain ⟨W', M', n', w', v, hv, hC, hD, hR2, hB⟩ := dr_ok (w := w) A hI hn
  obtain ⟨v, rfl⟩ := hv
  replace hC : aE 400 51 [.ref x] (dkW (mdW h y M) x W, n, w, g) = some (.inl (some (.int v)), (mdW (dkW h x W') y M, n, w, g)) := hC
  replace hD : aE 400 216 [.ref y] (mdW (dkW h x W') y M, n, w, g) = some (.inl (some (.int v)), (mdW (dkW h x W') y M', n', w', g)) := hD
  refine ⟨h, W', M', n', w', l5, l6, l7, l8, ?_, hI, hR2, hB⟩
  rw [dm_comm (h := h) (M := M') hI.2.2.2.2.2.1]
  simp (disch := omega) only [r0_870, r0_871, r0_874, r0_875, r0_878, r0_881, r0_882, hC, hD, md_0, dk_0, kl_n, kl_i, kl_r, kl_z, kl_l, kl_d, catS_0, catS_c, cat_i, cat_l, cat_d, cat_r, cat_n, kC_r, kC_x, Option.bind_some, Option.toList_some, Option.toList_none, List.cons_append, List.nil_append, gB0, gB1, gB2, gB3, gB4, rvB, nI_iI, i0, i1, l0_, wr_s, aup_s, and_true, true_and, and_self, eq_self, if_true, if_false, Nat.zero_le, Nat.reduceAdd, Nat.reduceLeDiff, gN_I, gN_L, gN_P, bI_0, bI_ok, z0, z1, Bool.true_eq, Bool.false_eq_true, not_true_eq_false, not_false_eq_true]

theorem lc_9 (hI : lwI h b K xs x y o g) (hR : Rel W M) (hn : o < n) (hi : i + 7 ≤ K) (hK : K ≤ 3584) : lwE b K xs x y o g i n w W (L 400 0 883 [some (.ref b), some (.ref x), some (.ref y), some (.ref o), some (.int (iI i)), l5, l6, l7, l8] [] (dkW (mdW h y M) x W, n, w, g)) := by
  obtain ⟨t1, e1, b1⟩ := iI_ex (xs ((i : Int) + 1).toNat)
  obtain ⟨t2, e2, b2⟩ := iI_ex (xs ((i : Int) + 2).toNat)
  have A : Alk 0 [(eIO, 1), (eIA, 2)] x y g W M (fun H => aE 399 52 [.ref x, .int (iI t1), .int (iI t2)] H) (fun H => aE 400 217 [.ref y, .int (iI t1), .int (iI t2)] H) := c_note (d := 387) (e := 391) (x := x) (y := y) (g := g) hR b1 b2
  obtain ⟨h2, W', M', n1, w1, n', w', k, v, fo, hW, hD, hI2, ho, hR2, ht, hB, hk⟩ := wr_ok (w := w) (Wr := fun H => aE 400 9 [.ref x, .int (iI t1), .int (iI t2), .ref o] H) (P := fun _ => True) A hI hn tyT0 (by decide) (fun h' n' w' fo v hv hC ho => w_9 (d := 399) dk_0 hC ho) (fun E k hk h' n' w' hC => by
      simp only [List.mem_cons, Prod.mk.injEq, List.not_mem_nil, or_false] at hk
      rcases hk with ⟨rfl, rfl⟩ | ⟨rfl, rfl⟩
      · exact w_9_1 (d := 399) dk_0 hC
      · exact w_9_2 (d := 399) dk_0 hC)
  replace hW : aE 400 9 [.ref x, .int (iI t1), .int (iI t2), .ref o] (dkW (mdW h y M) x W, n, w, g) = some (.inl (some (.int (iI k))), (mdW (dkW h2 x W') y M, n1, w1, g)) := hW
  replace hD : aE 400 217 [.ref y, .int (iI t1), .int (iI t2)] (mdW (dkW h2 x W') y M, n1, w1, g) = some (.inl (some (.int v)), (mdW (dkW h2 x W') y M', n', w', g)) := hD
  have hth : aE 400 182 [.ref y] (mdW (dkW h2 x W') y M', n', w', g) = some (.inl (some (.int (iI k))), (mdW (dkW h2 x W') y M', n', w', g)) := by rw [r_thrown (d := 399), ht]
  have hb := lw_b (W := W) (M := M) hI
  have hb2 := lw_b2 (W := W') (M := M) hI2
  have ho2 := lw_oo (W := W') (M := M') hI2 ho
  refine ⟨h2, W', M', n', w', some (.int (iI k)), some (.int v), l7, l8, ?_, hI2, hR2, hB⟩
  rw [dm_comm (h := h2) hI2.2.2.2.2.2.1]
  rcases hk with ⟨rfl, hf, -⟩ | ⟨k1, k2⟩
  · simp (disch := omega) only [r0_883, r0_884, r0_885, r0_887, r0_888, r0_889, r0_890, r0_891, r0_893, r0_894, r0_895, r0_896, r0_897, r0_900, r0_902, r0_903, r0_904, r0_906, r0_907, r0_908, r0_909, r0_910, r0_912, r0_913, r0_914, r0_915, r0_918, r0_920, r0_921, r0_924, r0_926, r0_929, r0_930, r0_931, r0_933, r0_936, r0_937, r0_938, r0_939, r0_941, r0_942, r0_943, r0_946, r0_947, r0_948, gI_F, iI_add, e1, e2, hW, hD, hth, hb, hb2, md_0, c0_, kl_n, kl_i, kl_r, kl_z, kl_l, kl_d, catS_0, catS_c, cat_i, cat_l, cat_d, cat_r, cat_n, kC_r, kC_x, Option.bind_some, Option.toList_some, Option.toList_none, List.cons_append, List.nil_append, gB0, gB1, gB2, gB3, gB4, rvB, nI_iI, i0, i1, l0_, wr_s, aup_s, and_true, true_and, and_self, eq_self, if_true, if_false, Nat.zero_le, Nat.reduceAdd, Nat.reduceLeDiff, gN_I, gN_L, gN_P, bI_0, bI_ok, z0, z1, Bool.true_eq, Bool.false_eq_true, not_true_eq_false, not_false_eq_true, ho2, gL_1, hf, lc_eq]
  · simp (disch := omega) only [r0_883, r0_884, r0_885, r0_887, r0_888, r0_889, r0_890, r0_891, r0_893, r0_894, r0_895, r0_896, r0_897, r0_900, r0_902, r0_903, r0_904, r0_906, r0_907, r0_908, r0_909, r0_910, r0_912, r0_913, r0_914, r0_915, r0_918, r0_920, r0_921, r0_924, r0_926, r0_929, r0_930, r0_931, r0_933, r0_936, r0_937, r0_938, r0_939, r0_941, r0_942, r0_943, r0_946, r0_947, r0_948, gI_F, iI_add, e1, e2, hW, hD, hth, hb, hb2, md_0, c0_, kl_n, kl_i, kl_r, kl_z, kl_l, kl_d, catS_0, catS_c, cat_i, cat_l, cat_d, cat_r, cat_n, kC_r, kC_x, Option.bind_some, Option.toList_some, Option.toList_none, List.cons_append, List.nil_append, gB0, gB1, gB2, gB3, gB4, rvB, nI_iI, i0, i1, l0_, wr_s, aup_s, and_true, true_and, and_self, eq_self, if_true, if_false, Nat.zero_le, Nat.reduceAdd, Nat.reduceLeDiff, gN_I, gN_L, gN_P, bI_0, bI_ok, z0, z1, Bool.true_eq, Bool.false_eq_true, not_true_eq_false, not_false_eq_true, iI_nz k1 k2]

theorem lc_10 (hI : lwI h b K xs x y o g) (hR : Rel W M) (hn : o < n) (hi : i + 7 ≤ K) (hK : K ≤ 3584) : lwE b K xs x y o g i n w W (L 400 0 951 [some (.ref b), some (.ref x), some (.ref y), some (.ref o), some (.int (iI i)), l5, l6, l7, l8] [] (dkW (mdW h y M) x W, n, w, g)) := by
  obtain ⟨t1, e1, b1⟩ := iI_ex (xs ((i : Int) + 1).toNat)
  obtain ⟨t2, e2, b2⟩ := iI_ex (xs ((i : Int) + 2).toNat)
  obtain ⟨t3, e3, b3⟩ := iI_ex (xs ((i : Int) + 3).toNat)
  obtain ⟨t4, e4, b4⟩ := iI_ex (xs ((i : Int) + 4).toNat)
  obtain ⟨t5, e5, b5⟩ := iI_ex (xs ((i : Int) + 5).toNat)
  by_cases z2 : iI t2 = iI 0
  · replace z2 := eq_true z2
    by_cases z3 : iI t3 = iI 0
    · replace z3 := eq_true z3
      have A : Alk 0 [(eIO, 1), (eIA, 2)] x y g W M (fun H => aE 399 53 [.ref x, .int (iI t1), .int (iI 0), .int (iI 0), .int (iI t4), .int (iI t5)] H) (fun H => aE 400 219 [.ref y, .int (iI t1), .int (iI 0), .int (iI 0), .int (iI t4), .int (iI t5)] H) := c_setTrack (d := 387) (e := 391) (x := x) (y := y) (g := g) (p := False) (q := False) hR b1 b4 b5
      obtain ⟨h2, W', M', n1, w1, n', w', k, v, fo, hW, hD, hI2, ho, hR2, ht, hB, hk⟩ := wr_ok (w := w) (Wr := fun H => aE 400 10 [.ref x, .int (iI t1), .int (iI 0), .int (iI 0), .int (iI t4), .int (iI t5), .ref o] H) (P := fun _ => True) A hI hn tyT0 (by decide) (fun h' n' w' fo v hv hC ho => w_10 (d := 399) dk_0 hC ho) (fun E k hk h' n' w' hC => by
          simp only [List.mem_cons, Prod.mk.injEq, List.not_mem_nil, or_false] at hk
          rcases hk with ⟨rfl, rfl⟩ | ⟨rfl, rfl⟩
          · exact w_10_1 (d := 399) dk_0 hC
          · exact w_10_2 (d := 399) dk_0 hC)
      replace hW : aE 400 10 [.ref x, .int (iI t1), .int (iI 0), .int (iI 0), .int (iI t4), .int (iI t5), .ref o] (dkW (mdW h y M) x W, n, w, g) = some (.inl (some (.int (iI k))), (mdW (dkW h2 x W') y M, n1, w1, g)) := hW
      replace hD : aE 400 219 [.ref y, .int (iI t1), .int (iI 0), .int (iI 0), .int (iI t4), .int (iI t5)] (mdW (dkW h2 x W') y M, n1, w1, g) = some (.inl (some (.int v)), (mdW (dkW h2 x W') y M', n', w', g)) := hD
      have hth : aE 400 182 [.ref y] (mdW (dkW h2 x W') y M', n', w', g) = some (.inl (some (.int (iI k))), (mdW (dkW h2 x W') y M', n', w', g)) := by rw [r_thrown (d := 399), ht]
      have hb := lw_b (W := W) (M := M) hI
      have hb2 := lw_b2 (W := W') (M := M) hI2
      have ho2 := lw_oo (W := W') (M := M') hI2 ho
      refine ⟨h2, W', M', n', w', some (.int (iI k)), some (.int v), l7, l8, ?_, hI2, hR2, hB⟩
      rw [dm_comm (h := h2) hI2.2.2.2.2.2.1]
      rcases hk with ⟨rfl, hf, -⟩ | ⟨k1, k2⟩
      · simp (disch := omega) only [r0_951, r0_952, r0_953, r0_955, r0_956, r0_957, r0_958, r0_959, r0_961, r0_962, r0_963, r0_964, r0_967, r0_968, r0_971, r0_972, r0_973, r0_975, r0_976, r0_977, r0_978, r0_981, r0_982, r0_985, r0_986, r0_987, r0_989, r0_990, r0_991, r0_992, r0_993, r0_995, r0_996, r0_997, r0_998, r0_999, r0_1002, r0_1004, r0_1005, r0_1006, r0_1008, r0_1009, r0_1010, r0_1011, r0_1012, r0_1014, r0_1015, r0_1016, r0_1017, r0_1020, r0_1021, r0_1024, r0_1025, r0_1026, r0_1028, r0_1029, r0_1030, r0_1031, r0_1034, r0_1035, r0_1038, r0_1039, r0_1040, r0_1042, r0_1043, r0_1044, r0_1045, r0_1046, r0_1048, r0_1049, r0_1050, r0_1051, r0_1054, r0_1056, r0_1057, r0_1060, r0_1062, r0_1065, r0_1066, r0_1067, r0_1069, r0_1072, r0_1073, r0_1074, r0_1075, r0_1077, r0_1078, r0_1079, r0_1082, r0_1083, r0_1084, gI_F, iI_add, e1, e2, e3, e4, e5, z2, z3, hW, hD, hth, hb, hb2, md_0, c0_, kl_n, kl_i, kl_r, kl_z, kl_l, kl_d, catS_0, catS_c, cat_i, cat_l, cat_d, cat_r, cat_n, kC_r, kC_x, Option.bind_some, Option.toList_some, Option.toList_none, List.cons_append, List.nil_append, gB0, gB1, gB2, gB3, gB4, rvB, nI_iI, i0, i1, l0_, wr_s, aup_s, and_true, true_and, and_self, eq_self, if_true, if_false, Nat.zero_le, Nat.reduceAdd, Nat.reduceLeDiff, gN_I, gN_L, gN_P, bI_0, bI_ok, z0, z1, Bool.true_eq, Bool.false_eq_true, not_true_eq_false, not_false_eq_true, ho2, gL_1, hf, lc_eq]
      · simp (disch := omega) only [r0_951, r0_952, r0_953, r0_955, r0_956, r0_957, r0_958, r0_959, r0_961, r0_962, r0_963, r0_964, r0_967, r0_968, r0_971, r0_972, r0_973, r0_975, r0_976, r0_977, r0_978, r0_981, r0_982, r0_985, r0_986, r0_987, r0_989, r0_990, r0_991, r0_992, r0_993, r0_995, r0_996, r0_997, r0_998, r0_999, r0_1002, r0_1004, r0_1005, r0_1006, r0_1008, r0_1009, r0_1010, r0_1011, r0_1012, r0_1014, r0_1015, r0_1016, r0_1017, r0_1020, r0_1021, r0_1024, r0_1025, r0_1026, r0_1028, r0_1029, r0_1030, r0_1031, r0_1034, r0_1035, r0_1038, r0_1039, r0_1040, r0_1042, r0_1043, r0_1044, r0_1045, r0_1046, r0_1048, r0_1049, r0_1050, r0_1051, r0_1054, r0_1056, r0_1057, r0_1060, r0_1062, r0_1065, r0_1066, r0_1067, r0_1069, r0_1072, r0_1073, r0_1074, r0_1075, r0_1077, r0_1078, r0_1079, r0_1082, r0_1083, r0_1084, gI_F, iI_add, e1, e2, e3, e4, e5, z2, z3, hW, hD, hth, hb, hb2, md_0, c0_, kl_n, kl_i, kl_r, kl_z, kl_l, kl_d, catS_0, catS_c, cat_i, cat_l, cat_d, cat_r, cat_n, kC_r, kC_x, Option.bind_some, Option.toList_some, Option.toList_none, List.cons_append, List.nil_append, gB0, gB1, gB2, gB3, gB4, rvB, nI_iI, i0, i1, l0_, wr_s, aup_s, and_true, true_and, and_self, eq_self, if_true, if_false, Nat.zero_le, Nat.reduceAdd, Nat.reduceLeDiff, gN_I, gN_L, gN_P, bI_0, bI_ok, z0, z1, Bool.true_eq, Bool.false_eq_true, not_true_eq_false, not_false_eq_true, iI_nz k1 k2]
    · replace z3 := eq_false z3
      have A : Alk 0 [(eIO, 1), (eIA, 2)] x y g W M (fun H => aE 399 53 [.ref x, .int (iI t1), .int (iI 0), .int (iI 1), .int (iI t4), .int (iI t5)] H) (fun H => aE 400 219 [.ref y, .int (iI t1), .int (iI 0), .int (iI 1), .int (iI t4), .int (iI t5)] H) := c_setTrack (d := 387) (e := 391) (x := x) (y := y) (g := g) (p := False) (q := True) hR b1 b4 b5
      obtain ⟨h2, W', M', n1, w1, n', w', k, v, fo, hW, hD, hI2, ho, hR2, ht, hB, hk⟩ := wr_ok (w := w) (Wr := fun H => aE 400 10 [.ref x, .int (iI t1), .int (iI 0), .int (iI 1), .int (iI t4), .int (iI t5), .ref o] H) (P := fun _ => True) A hI hn tyT0 (by decide) (fun h' n' w' fo v hv hC ho => w_10 (d := 399) dk_0 hC ho) (fun E k hk h' n' w' hC => by
          simp only [List.mem_cons, Prod.mk.injEq, List.not_mem_nil, or_false] at hk
          rcases hk with ⟨rfl, rfl⟩ | ⟨rfl, rfl⟩
          · exact w_10_1 (d := 399) dk_0 hC
          · exact w_10_2 (d := 399) dk_0 hC)
      replace hW : aE 400 10 [.ref x, .int (iI t1), .int (iI 0), .int (iI 1), .int (iI t4), .int (iI t5), .ref o] (dkW (mdW h y M) x W, n, w, g) = some (.inl (some (.int (iI k))), (mdW (dkW h2 x W') y M, n1, w1, g)) := hW
      replace hD : aE 400 219 [.ref y, .int (iI t1), .int (iI 0), .int (iI 1), .int (iI t4), .int (iI t5)] (mdW (dkW h2 x W') y M, n1, w1, g) = some (.inl (some (.int v)), (mdW (dkW h2 x W') y M', n', w', g)) := hD
      have hth : aE 400 182 [.ref y] (mdW (dkW h2 x W') y M', n', w', g) = some (.inl (some (.int (iI k))), (mdW (dkW h2 x W') y M', n', w', g)) := by rw [r_thrown (d := 399), ht]
      have hb := lw_b (W := W) (M := M) hI
      have hb2 := lw_b2 (W := W') (M := M) hI2
      have ho2 := lw_oo (W := W') (M := M') hI2 ho
      refine ⟨h2, W', M', n', w', some (.int (iI k)), some (.int v), l7, l8, ?_, hI2, hR2, hB⟩
      rw [dm_comm (h := h2) hI2.2.2.2.2.2.1]
      rcases hk with ⟨rfl, hf, -⟩ | ⟨k1, k2⟩
      · simp (disch := omega) only [r0_951, r0_952, r0_953, r0_955, r0_956, r0_957, r0_958, r0_959, r0_961, r0_962, r0_963, r0_964, r0_967, r0_968, r0_971, r0_972, r0_973, r0_975, r0_976, r0_977, r0_978, r0_981, r0_982, r0_985, r0_986, r0_987, r0_989, r0_990, r0_991, r0_992, r0_993, r0_995, r0_996, r0_997, r0_998, r0_999, r0_1002, r0_1004, r0_1005, r0_1006, r0_1008, r0_1009, r0_1010, r0_1011, r0_1012, r0_1014, r0_1015, r0_1016, r0_1017, r0_1020, r0_1021, r0_1024, r0_1025, r0_1026, r0_1028, r0_1029, r0_1030, r0_1031, r0_1034, r0_1035, r0_1038, r0_1039, r0_1040, r0_1042, r0_1043, r0_1044, r0_1045, r0_1046, r0_1048, r0_1049, r0_1050, r0_1051, r0_1054, r0_1056, r0_1057, r0_1060, r0_1062, r0_1065, r0_1066, r0_1067, r0_1069, r0_1072, r0_1073, r0_1074, r0_1075, r0_1077, r0_1078, r0_1079, r0_1082, r0_1083, r0_1084, gI_F, iI_add, e1, e2, e3, e4, e5, z2, z3, hW, hD, hth, hb, hb2, md_0, c0_, kl_n, kl_i, kl_r, kl_z, kl_l, kl_d, catS_0, catS_c, cat_i, cat_l, cat_d, cat_r, cat_n, kC_r, kC_x, Option.bind_some, Option.toList_some, Option.toList_none, List.cons_append, List.nil_append, gB0, gB1, gB2, gB3, gB4, rvB, nI_iI, i0, i1, l0_, wr_s, aup_s, and_true, true_and, and_self, eq_self, if_true, if_false, Nat.zero_le, Nat.reduceAdd, Nat.reduceLeDiff, gN_I, gN_L, gN_P, bI_0, bI_ok, z0, z1, Bool.true_eq, Bool.false_eq_true, not_true_eq_false, not_false_eq_true, ho2, gL_1, hf, lc_eq]
      · simp (disch := omega) only [r0_951, r0_952, r0_953, r0_955, r0_956, r0_957, r0_958, r0_959, r0_961, r0_962, r0_963, r0_964, r0_967, r0_968, r0_971, r0_972, r0_973, r0_975, r0_976, r0_977, r0_978, r0_981, r0_982, r0_985, r0_986, r0_987, r0_989, r0_990, r0_991, r0_992, r0_993, r0_995, r0_996, r0_997, r0_998, r0_999, r0_1002, r0_1004, r0_1005, r0_1006, r0_1008, r0_1009, r0_1010, r0_1011, r0_1012, r0_1014, r0_1015, r0_1016, r0_1017, r0_1020, r0_1021, r0_1024, r0_1025, r0_1026, r0_1028, r0_1029, r0_1030, r0_1031, r0_1034, r0_1035, r0_1038, r0_1039, r0_1040, r0_1042, r0_1043, r0_1044, r0_1045, r0_1046, r0_1048, r0_1049, r0_1050, r0_1051, r0_1054, r0_1056, r0_1057, r0_1060, r0_1062, r0_1065, r0_1066, r0_1067, r0_1069, r0_1072, r0_1073, r0_1074, r0_1075, r0_1077, r0_1078, r0_1079, r0_1082, r0_1083, r0_1084, gI_F, iI_add, e1, e2, e3, e4, e5, z2, z3, hW, hD, hth, hb, hb2, md_0, c0_, kl_n, kl_i, kl_r, kl_z, kl_l, kl_d, catS_0, catS_c, cat_i, cat_l, cat_d, cat_r, cat_n, kC_r, kC_x, Option.bind_some, Option.toList_some, Option.toList_none, List.cons_append, List.nil_append, gB0, gB1, gB2, gB3, gB4, rvB, nI_iI, i0, i1, l0_, wr_s, aup_s, and_true, true_and, and_self, eq_self, if_true, if_false, Nat.zero_le, Nat.reduceAdd, Nat.reduceLeDiff, gN_I, gN_L, gN_P, bI_0, bI_ok, z0, z1, Bool.true_eq, Bool.false_eq_true, not_true_eq_false, not_false_eq_true, iI_nz k1 k2]
  · replace z2 := eq_false z2
    by_cases z3 : iI t3 = iI 0
    · replace z3 := eq_true z3
      have A : Alk 0 [(eIO, 1), (eIA, 2)] x y g W M (fun H => aE 399 53 [.ref x, .int (iI t1), .int (iI 1), .int (iI 0), .int (iI t4), .int (iI t5)] H) (fun H => aE 400 219 [.ref y, .int (iI t1), .int (iI 1), .int (iI 0), .int (iI t4), .int (iI t5)] H) := c_setTrack (d := 387) (e := 391) (x := x) (y := y) (g := g) (p := True) (q := False) hR b1 b4 b5
      obtain ⟨h2, W', M', n1, w1, n', w', k, v, fo, hW, hD, hI2, ho, hR2, ht, hB, hk⟩ := wr_ok (w := w) (Wr := fun H => aE 400 10 [.ref x, .int (iI t1), .int (iI 1), .int (iI 0), .int (iI t4), .int (iI t5), .ref o] H) (P := fun _ => True) A hI hn tyT0 (by decide) (fun h' n' w' fo v hv hC ho => w_10 (d := 399) dk_0 hC ho) (fun E k hk h' n' w' hC => by
          simp only [List.mem_cons, Prod.mk.injEq, List.not_mem_nil, or_false] at hk
          rcases hk with ⟨rfl, rfl⟩ | ⟨rfl, rfl⟩
          · exact w_10_1 (d := 399) dk_0 hC
          · exact w_10_2 (d := 399) dk_0 hC)
      replace hW : aE 400 10 [.ref x, .int (iI t1), .int (iI 1), .int (iI 0), .int (iI t4), .int (iI t5), .ref o] (dkW (mdW h y M) x W, n, w, g) = some (.inl (some (.int (iI k))), (mdW (dkW h2 x W') y M, n1, w1, g)) := hW
      replace hD : aE 400 219 [.ref y, .int (iI t1), .int (iI 1), .int (iI 0), .int (iI t4), .int (iI t5)] (mdW (dkW h2 x W') y M, n1, w1, g) = some (.inl (some (.int v)), (mdW (dkW h2 x W') y M', n', w', g)) := hD
      have hth : aE 400 182 [.ref y] (mdW (dkW h2 x W') y M', n', w', g) = some (.inl (some (.int (iI k))), (mdW (dkW h2 x W') y M', n', w', g)) := by rw [r_thrown (d := 399), ht]
      have hb := lw_b (W := W) (M := M) hI
      have hb2 := lw_b2 (W := W') (M := M) hI2
      have ho2 := lw_oo (W := W') (M := M') hI2 ho
      refine ⟨h2, W', M', n', w', some (.int (iI k)), some (.int v), l7, l8, ?_, hI2, hR2, hB⟩
      rw [dm_comm (h := h2) hI2.2.2.2.2.2.1]
      rcases hk with ⟨rfl, hf, -⟩ | ⟨k1, k2⟩
      · simp (disch := omega) only [r0_951, r0_952, r0_953, r0_955, r0_956, r0_957, r0_958, r0_959, r0_961, r0_962, r0_963, r0_964, r0_967, r0_968, r0_971, r0_972, r0_973, r0_975, r0_976, r0_977, r0_978, r0_981, r0_982, r0_985, r0_986, r0_987, r0_989, r0_990, r0_991, r0_992, r0_993, r0_995, r0_996, r0_997, r0_998, r0_999, r0_1002, r0_1004, r0_1005, r0_1006, r0_1008, r0_1009, r0_1010, r0_1011, r0_1012, r0_1014, r0_1015, r0_1016, r0_1017, r0_1020, r0_1021, r0_1024, r0_1025, r0_1026, r0_1028, r0_1029, r0_1030, r0_1031, r0_1034, r0_1035, r0_1038, r0_1039, r0_1040, r0_1042, r0_1043, r0_1044, r0_1045, r0_1046, r0_1048, r0_1049, r0_1050, r0_1051, r0_1054, r0_1056, r0_1057, r0_1060, r0_1062, r0_1065, r0_1066, r0_1067, r0_1069, r0_1072, r0_1073, r0_1074, r0_1075, r0_1077, r0_1078, r0_1079, r0_1082, r0_1083, r0_1084, gI_F, iI_add, e1, e2, e3, e4, e5, z2, z3, hW, hD, hth, hb, hb2, md_0, c0_, kl_n, kl_i, kl_r, kl_z, kl_l, kl_d, catS_0, catS_c, cat_i, cat_l, cat_d, cat_r, cat_n, kC_r, kC_x, Option.bind_some, Option.toList_some, Option.toList_none, List.cons_append, List.nil_append, gB0, gB1, gB2, gB3, gB4, rvB, nI_iI, i0, i1, l0_, wr_s, aup_s, and_true, true_and, and_self, eq_self, if_true, if_false, Nat.zero_le, Nat.reduceAdd, Nat.reduceLeDiff, gN_I, gN_L, gN_P, bI_0, bI_ok, z0, z1, Bool.true_eq, Bool.false_eq_true, not_true_eq_false, not_false_eq_true, ho2, gL_1, hf, lc_eq]
      · simp (disch := omega) only [r0_951, r0_952, r0_953, r0_955, r0_956, r0_957, r0_958, r0_959, r0_961, r0_962, r0_963, r0_964, r0_967, r0_968, r0_971, r0_972, r0_973, r0_975, r0_976, r0_977, r0_978, r0_981, r0_982, r0_985, r0_986, r0_987, r0_989, r0_990, r0_991, r0_992, r0_993, r0_995, r0_996, r0_997, r0_998, r0_999, r0_1002, r0_1004, r0_1005, r0_1006, r0_1008, r0_1009, r0_1010, r0_1011, r0_1012, r0_1014, r0_1015, r0_1016, r0_1017, r0_1020, r0_1021, r0_1024, r0_1025, r0_1026, r0_1028, r0_1029, r0_1030, r0_1031, r0_1034, r0_1035, r0_1038, r0_1039, r0_1040, r0_1042, r0_1043, r0_1044, r0_1045, r0_1046, r0_1048, r0_1049, r0_1050, r0_1051, r0_1054, r0_1056, r0_1057, r0_1060, r0_1062, r0_1065, r0_1066, r0_1067, r0_1069, r0_1072, r0_1073, r0_1074, r0_1075, r0_1077, r0_1078, r0_1079, r0_1082, r0_1083, r0_1084, gI_F, iI_add, e1, e2, e3, e4, e5, z2, z3, hW, hD, hth, hb, hb2, md_0, c0_, kl_n, kl_i, kl_r, kl_z, kl_l, kl_d, catS_0, catS_c, cat_i, cat_l, cat_d, cat_r, cat_n, kC_r, kC_x, Option.bind_some, Option.toList_some, Option.toList_none, List.cons_append, List.nil_append, gB0, gB1, gB2, gB3, gB4, rvB, nI_iI, i0, i1, l0_, wr_s, aup_s, and_true, true_and, and_self, eq_self, if_true, if_false, Nat.zero_le, Nat.reduceAdd, Nat.reduceLeDiff, gN_I, gN_L, gN_P, bI_0, bI_ok, z0, z1, Bool.true_eq, Bool.false_eq_true, not_true_eq_false, not_false_eq_true, iI_nz k1 k2]
    · replace z3 := eq_false z3
      have A : Alk 0 [(eIO, 1), (eIA, 2)] x y g W M (fun H => aE 399 53 [.ref x, .int (iI t1), .int (iI 1), .int (iI 1), .int (iI t4), .int (iI t5)] H) (fun H => aE 400 219 [.ref y, .int (iI t1), .int (iI 1), .int (iI 1), .int (iI t4), .int (iI t5)] H) := c_setTrack (d := 387) (e := 391) (x := x) (y := y) (g := g) (p := True) (q := True) hR b1 b4 b5
      obtain ⟨h2, W', M', n1, w1, n', w', k, v, fo, hW, hD, hI2, ho, hR2, ht, hB, hk⟩ := wr_ok (w := w) (Wr := fun H => aE 400 10 [.ref x, .int (iI t1), .int (iI 1), .int (iI 1), .int (iI t4), .int (iI t5), .ref o] H) (P := fun _ => True) A hI hn tyT0 (by decide) (fun h' n' w' fo v hv hC ho => w_10 (d := 399) dk_0 hC ho) (fun E k hk h' n' w' hC => by
          simp only [List.mem_cons, Prod.mk.injEq, List.not_mem_nil, or_false] at hk
          rcases hk with ⟨rfl, rfl⟩ | ⟨rfl, rfl⟩
          · exact w_10_1 (d := 399) dk_0 hC
          · exact w_10_2 (d := 399) dk_0 hC)
      replace hW : aE 400 10 [.ref x, .int (iI t1), .int (iI 1), .int (iI 1), .int (iI t4), .int (iI t5), .ref o] (dkW (mdW h y M) x W, n, w, g) = some (.inl (some (.int (iI k))), (mdW (dkW h2 x W') y M, n1, w1, g)) := hW
      replace hD : aE 400 219 [.ref y, .int (iI t1), .int (iI 1), .int (iI 1), .int (iI t4), .int (iI t5)] (mdW (dkW h2 x W') y M, n1, w1, g) = some (.inl (some (.int v)), (mdW (dkW h2 x W') y M', n', w', g)) := hD
      have hth : aE 400 182 [.ref y] (mdW (dkW h2 x W') y M', n', w', g) = some (.inl (some (.int (iI k))), (mdW (dkW h2 x W') y M', n', w', g)) := by rw [r_thrown (d := 399), ht]
      have hb := lw_b (W := W) (M := M) hI
      have hb2 := lw_b2 (W := W') (M := M) hI2
      have ho2 := lw_oo (W := W') (M := M') hI2 ho
      refine ⟨h2, W', M', n', w', some (.int (iI k)), some (.int v), l7, l8, ?_, hI2, hR2, hB⟩
      rw [dm_comm (h := h2) hI2.2.2.2.2.2.1]
      rcases hk with ⟨rfl, hf, -⟩ | ⟨k1, k2⟩
      · simp (disch := omega) only [r0_951, r0_952, r0_953, r0_955, r0_956, r0_957, r0_958, r0_959, r0_961, r0_962, r0_963, r0_964, r0_967, r0_968, r0_971, r0_972, r0_973, r0_975, r0_976, r0_977, r0_978, r0_981, r0_982, r0_985, r0_986, r0_987, r0_989, r0_990, r0_991, r0_992, r0_993, r0_995, r0_996, r0_997, r0_998, r0_999, r0_1002, r0_1004, r0_1005, r0_1006, r0_1008, r0_1009, r0_1010, r0_1011, r0_1012, r0_1014, r0_1015, r0_1016, r0_1017, r0_1020, r0_1021, r0_1024, r0_1025, r0_1026, r0_1028, r0_1029, r0_1030, r0_1031, r0_1034, r0_1035, r0_1038, r0_1039, r0_1040, r0_1042, r0_1043, r0_1044, r0_1045, r0_1046, r0_1048, r0_1049, r0_1050, r0_1051, r0_1054, r0_1056, r0_1057, r0_1060, r0_1062, r0_1065, r0_1066, r0_1067, r0_1069, r0_1072, r0_1073, r0_1074, r0_1075, r0_1077, r0_1078, r0_1079, r0_1082, r0_1083, r0_1084, gI_F, iI_add, e1, e2, e3, e4, e5, z2, z3, hW, hD, hth, hb, hb2, md_0, c0_, kl_n, kl_i, kl_r, kl_z, kl_l, kl_d, catS_0, catS_c, cat_i, cat_l, cat_d, cat_r, cat_n, kC_r, kC_x, Option.bind_some, Option.toList_some, Option.toList_none, List.cons_append, List.nil_append, gB0, gB1, gB2, gB3, gB4, rvB, nI_iI, i0, i1, l0_, wr_s, aup_s, and_true, true_and, and_self, eq_self, if_true, if_false, Nat.zero_le, Nat.reduceAdd, Nat.reduceLeDiff, gN_I, gN_L, gN_P, bI_0, bI_ok, z0, z1, Bool.true_eq, Bool.false_eq_true, not_true_eq_false, not_false_eq_true, ho2, gL_1, hf, lc_eq]
      · simp (disch := omega) only [r0_951, r0_952, r0_953, r0_955, r0_956, r0_957, r0_958, r0_959, r0_961, r0_962, r0_963, r0_964, r0_967, r0_968, r0_971, r0_972, r0_973, r0_975, r0_976, r0_977, r0_978, r0_981, r0_982, r0_985, r0_986, r0_987, r0_989, r0_990, r0_991, r0_992, r0_993, r0_995, r0_996, r0_997, r0_998, r0_999, r0_1002, r0_1004, r0_1005, r0_1006, r0_1008, r0_1009, r0_1010, r0_1011, r0_1012, r0_1014, r0_1015, r0_1016, r0_1017, r0_1020, r0_1021, r0_1024, r0_1025, r0_1026, r0_1028, r0_1029, r0_1030, r0_1031, r0_1034, r0_1035, r0_1038, r0_1039, r0_1040, r0_1042, r0_1043, r0_1044, r0_1045, r0_1046, r0_1048, r0_1049, r0_1050, r0_1051, r0_1054, r0_1056, r0_1057, r0_1060, r0_1062, r0_1065, r0_1066, r0_1067, r0_1069, r0_1072, r0_1073, r0_1074, r0_1075, r0_1077, r0_1078, r0_1079, r0_1082, r0_1083, r0_1084, gI_F, iI_add, e1, e2, e3, e4, e5, z2, z3, hW, hD, hth, hb, hb2, md_0, c0_, kl_n, kl_i, kl_r, kl_z, kl_l, kl_d, catS_0, catS_c, cat_i, cat_l, cat_d, cat_r, cat_n, kC_r, kC_x, Option.bind_some, Option.toList_some, Option.toList_none, List.cons_append, List.nil_append, gB0, gB1, gB2, gB3, gB4, rvB, nI_iI, i0, i1, l0_, wr_s, aup_s, and_true, true_and, and_self, eq_self, if_true, if_false, Nat.zero_le, Nat.reduceAdd, Nat.reduceLeDiff, gN_I, gN_L, gN_P, bI_0, bI_ok, z0, z1, Bool.true_eq, Bool.false_eq_true, not_true_eq_false, not_false_eq_true, iI_nz k1 k2]

theorem lc_11 (hI : lwI h b K xs x y o g) (hR : Rel W M) (hn : o < n) (hi : i + 7 ≤ K) (hK : K ≤ 3584) : lwE b K xs x y o g i n w W (L 400 0 1087 [some (.ref b), some (.ref x), some (.ref y), some (.ref o), some (.int (iI i)), l5, l6, l7, l8] [] (dkW (mdW h y M) x W, n, w, g)) := by
  obtain ⟨t1, e1, b1⟩ := iI_ex (xs ((i : Int) + 1).toNat)
  obtain ⟨t2, e2, b2⟩ := iI_ex (xs ((i : Int) + 2).toNat)
  have A : Alk 0 [(eIA, 1), (eIS, 2)] x y g W M (fun H => aE 399 54 [.ref x, .int (iI t1), .int (iI t2)] H) (fun H => aE 400 221 [.ref y, .int (iI t1), .int (iI t2)] H) := c_setSpeed (d := 387) (e := 391) (x := x) (y := y) (g := g) hR b1 b2
  obtain ⟨h2, W', M', n1, w1, n', w', k, v, fo, hW, hD, hI2, ho, hR2, ht, hB, hk⟩ := wr_ok (w := w) (Wr := fun H => aE 400 11 [.ref x, .int (iI t1), .int (iI t2), .ref o] H) (P := fun _ => True) A hI hn tyT0 (by decide) (fun h' n' w' fo v hv hC ho => w_11 (d := 399) dk_0 hC ho) (fun E k hk h' n' w' hC => by
      simp only [List.mem_cons, Prod.mk.injEq, List.not_mem_nil, or_false] at hk
      rcases hk with ⟨rfl, rfl⟩ | ⟨rfl, rfl⟩
      · exact w_11_1 (d := 399) dk_0 hC
      · exact w_11_2 (d := 399) dk_0 hC)
  replace hW : aE 400 11 [.ref x, .int (iI t1), .int (iI t2), .ref o] (dkW (mdW h y M) x W, n, w, g) = some (.inl (some (.int (iI k))), (mdW (dkW h2 x W') y M, n1, w1, g)) := hW
  replace hD : aE 400 221 [.ref y, .int (iI t1), .int (iI t2)] (mdW (dkW h2 x W') y M, n1, w1, g) = some (.inl (some (.int v)), (mdW (dkW h2 x W') y M', n', w', g)) := hD
  have hth : aE 400 182 [.ref y] (mdW (dkW h2 x W') y M', n', w', g) = some (.inl (some (.int (iI k))), (mdW (dkW h2 x W') y M', n', w', g)) := by rw [r_thrown (d := 399), ht]
  have hb := lw_b (W := W) (M := M) hI
  have hb2 := lw_b2 (W := W') (M := M) hI2
  have ho2 := lw_oo (W := W') (M := M') hI2 ho
  refine ⟨h2, W', M', n', w', some (.int (iI k)), some (.int v), l7, l8, ?_, hI2, hR2, hB⟩
  rw [dm_comm (h := h2) hI2.2.2.2.2.2.1]
  rcases hk with ⟨rfl, hf, -⟩ | ⟨k1, k2⟩
  · simp (disch := omega) only [r0_1087, r0_1088, r0_1089, r0_1091, r0_1092, r0_1093, r0_1094, r0_1095, r0_1097, r0_1098, r0_1099, r0_1100, r0_1101, r0_1104, r0_1106, r0_1107, r0_1108, r0_1110, r0_1111, r0_1112, r0_1113, r0_1114, r0_1116, r0_1117, r0_1118, r0_1119, r0_1122, r0_1124, r0_1125, r0_1128, r0_1130, r0_1133, r0_1134, r0_1135, r0_1137, r0_1140, r0_1141, r0_1142, r0_1143, r0_1145, r0_1146, r0_1147, r0_1150, r0_1151, r0_1152, gI_F, iI_add, e1, e2, hW, hD, hth, hb, hb2, md_0, c0_, kl_n, kl_i, kl_r, kl_z, kl_l, kl_d, catS_0, catS_c, cat_i, cat_l, cat_d, cat_r, cat_n, kC_r, kC_x, Option.bind_some, Option.toList_some, Option.toList_none, List.cons_append, List.nil_append, gB0, gB1, gB2, gB3, gB4, rvB, nI_iI, i0, i1, l0_, wr_s, aup_s, and_true, true_and, and_self, eq_self, if_true, if_false, Nat.zero_le, Nat.reduceAdd, Nat.reduceLeDiff, gN_I, gN_L, gN_P, bI_0, bI_ok, z0, z1, Bool.true_eq, Bool.false_eq_true, not_true_eq_false, not_false_eq_true, ho2, gL_1, hf, lc_eq]
  · simp (disch := omega) only [r0_1087, r0_1088, r0_1089, r0_1091, r0_1092, r0_1093, r0_1094, r0_1095, r0_1097, r0_1098, r0_1099, r0_1100, r0_1101, r0_1104, r0_1106, r0_1107, r0_1108, r0_1110, r0_1111, r0_1112, r0_1113, r0_1114, r0_1116, r0_1117, r0_1118, r0_1119, r0_1122, r0_1124, r0_1125, r0_1128, r0_1130, r0_1133, r0_1134, r0_1135, r0_1137, r0_1140, r0_1141, r0_1142, r0_1143, r0_1145, r0_1146, r0_1147, r0_1150, r0_1151, r0_1152, gI_F, iI_add, e1, e2, hW, hD, hth, hb, hb2, md_0, c0_, kl_n, kl_i, kl_r, kl_z, kl_l, kl_d, catS_0, catS_c, cat_i, cat_l, cat_d, cat_r, cat_n, kC_r, kC_x, Option.bind_some, Option.toList_some, Option.toList_none, List.cons_append, List.nil_append, gB0, gB1, gB2, gB3, gB4, rvB, nI_iI, i0, i1, l0_, wr_s, aup_s, and_true, true_and, and_self, eq_self, if_true, if_false, Nat.zero_le, Nat.reduceAdd, Nat.reduceLeDiff, gN_I, gN_L, gN_P, bI_0, bI_ok, z0, z1, Bool.true_eq, Bool.false_eq_true, not_true_eq_false, not_false_eq_true, iI_nz k1 k2]

theorem lc_12 (hI : lwI h b K xs x y o g) (hR : Rel W M) (hn : o < n) (hi : i + 7 ≤ K) (hK : K ≤ 3584) : lwE b K xs x y o g i n w W (L 400 0 1155 [some (.ref b), some (.ref x), some (.ref y), some (.ref o), some (.int (iI i)), l5, l6, l7, l8] [] (dkW (mdW h y M) x W, n, w, g)) := by
  obtain ⟨t1, e1, b1⟩ := iI_ex (xs ((i : Int) + 1).toNat)
  obtain ⟨t2, e2, b2⟩ := iI_ex (xs ((i : Int) + 2).toNat)
  obtain ⟨t3, e3, b3⟩ := iI_ex (xs ((i : Int) + 3).toNat)
  have A : Alk 0 [(eIA, 1), (eIS, 2)] x y g W M (fun H => aE 399 55 [.ref x, .int (iI t1), .int (iI t2), .int (iI t3)] H) (fun H => aE 400 222 [.ref y, .int (iI t1), .int (iI t2), .int (iI t3)] H) := c_setMeter (d := 387) (e := 391) (x := x) (y := y) (g := g) hR b1 b2 b3
  obtain ⟨h2, W', M', n1, w1, n', w', k, v, fo, hW, hD, hI2, ho, hR2, ht, hB, hk⟩ := wr_ok (w := w) (Wr := fun H => aE 400 12 [.ref x, .int (iI t1), .int (iI t2), .int (iI t3), .ref o] H) (P := fun _ => True) A hI hn tyT0 (by decide) (fun h' n' w' fo v hv hC ho => w_12 (d := 399) dk_0 hC ho) (fun E k hk h' n' w' hC => by
      simp only [List.mem_cons, Prod.mk.injEq, List.not_mem_nil, or_false] at hk
      rcases hk with ⟨rfl, rfl⟩ | ⟨rfl, rfl⟩
      · exact w_12_1 (d := 399) dk_0 hC
      · exact w_12_2 (d := 399) dk_0 hC)
  replace hW : aE 400 12 [.ref x, .int (iI t1), .int (iI t2), .int (iI t3), .ref o] (dkW (mdW h y M) x W, n, w, g) = some (.inl (some (.int (iI k))), (mdW (dkW h2 x W') y M, n1, w1, g)) := hW
  replace hD : aE 400 222 [.ref y, .int (iI t1), .int (iI t2), .int (iI t3)] (mdW (dkW h2 x W') y M, n1, w1, g) = some (.inl (some (.int v)), (mdW (dkW h2 x W') y M', n', w', g)) := hD
  have hth : aE 400 182 [.ref y] (mdW (dkW h2 x W') y M', n', w', g) = some (.inl (some (.int (iI k))), (mdW (dkW h2 x W') y M', n', w', g)) := by rw [r_thrown (d := 399), ht]
  have hb := lw_b (W := W) (M := M) hI
  have hb2 := lw_b2 (W := W') (M := M) hI2
  have ho2 := lw_oo (W := W') (M := M') hI2 ho
  refine ⟨h2, W', M', n', w', some (.int (iI k)), some (.int v), l7, l8, ?_, hI2, hR2, hB⟩
  rw [dm_comm (h := h2) hI2.2.2.2.2.2.1]
  rcases hk with ⟨rfl, hf, -⟩ | ⟨k1, k2⟩
  · simp (disch := omega) only [r0_1155, r0_1156, r0_1157, r0_1159, r0_1160, r0_1161, r0_1162, r0_1163, r0_1165, r0_1166, r0_1167, r0_1168, r0_1169, r0_1171, r0_1172, r0_1173, r0_1174, r0_1175, r0_1178, r0_1180, r0_1181, r0_1182, r0_1184, r0_1185, r0_1186, r0_1187, r0_1188, r0_1190, r0_1191, r0_1192, r0_1193, r0_1194, r0_1196, r0_1197, r0_1198, r0_1199, r0_1202, r0_1204, r0_1205, r0_1208, r0_1210, r0_1213, r0_1214, r0_1215, r0_1217, r0_1220, r0_1221, r0_1222, r0_1223, r0_1225, r0_1226, r0_1227, r0_1230, r0_1231, r0_1232, gI_F, iI_add, e1, e2, e3, hW, hD, hth, hb, hb2, md_0, c0_, kl_n, kl_i, kl_r, kl_z, kl_l, kl_d, catS_0, catS_c, cat_i, cat_l, cat_d, cat_r, cat_n, kC_r, kC_x, Option.bind_some, Option.toList_some, Option.toList_none, List.cons_append, List.nil_append, gB0, gB1, gB2, gB3, gB4, rvB, nI_iI, i0, i1, l0_, wr_s, aup_s, and_true, true_and, and_self, eq_self, if_true, if_false, Nat.zero_le, Nat.reduceAdd, Nat.reduceLeDiff, gN_I, gN_L, gN_P, bI_0, bI_ok, z0, z1, Bool.true_eq, Bool.false_eq_true, not_true_eq_false, not_false_eq_true, ho2, gL_1, hf, lc_eq]
  · simp (disch := omega) only [r0_1155, r0_1156, r0_1157, r0_1159, r0_1160, r0_1161, r0_1162, r0_1163, r0_1165, r0_1166, r0_1167, r0_1168, r0_1169, r0_1171, r0_1172, r0_1173, r0_1174, r0_1175, r0_1178, r0_1180, r0_1181, r0_1182, r0_1184, r0_1185, r0_1186, r0_1187, r0_1188, r0_1190, r0_1191, r0_1192, r0_1193, r0_1194, r0_1196, r0_1197, r0_1198, r0_1199, r0_1202, r0_1204, r0_1205, r0_1208, r0_1210, r0_1213, r0_1214, r0_1215, r0_1217, r0_1220, r0_1221, r0_1222, r0_1223, r0_1225, r0_1226, r0_1227, r0_1230, r0_1231, r0_1232, gI_F, iI_add, e1, e2, e3, hW, hD, hth, hb, hb2, md_0, c0_, kl_n, kl_i, kl_r, kl_z, kl_l, kl_d, catS_0, catS_c, cat_i, cat_l, cat_d, cat_r, cat_n, kC_r, kC_x, Option.bind_some, Option.toList_some, Option.toList_none, List.cons_append, List.nil_append, gB0, gB1, gB2, gB3, gB4, rvB, nI_iI, i0, i1, l0_, wr_s, aup_s, and_true, true_and, and_self, eq_self, if_true, if_false, Nat.zero_le, Nat.reduceAdd, Nat.reduceLeDiff, gN_I, gN_L, gN_P, bI_0, bI_ok, z0, z1, Bool.true_eq, Bool.false_eq_true, not_true_eq_false, not_false_eq_true, iI_nz k1 k2]

end
