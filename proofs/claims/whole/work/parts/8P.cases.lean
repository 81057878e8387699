/-! ===== the law's cases ===== -/
section
variable {b K x y o i n w : Nat} {xs : Nat → Int32} {g : Nat × Nat} {W : Dk} {M : Md} {h : aHf} {l5 l6 l7 l8 : Option Value}
theorem lc_13 (hI : lwI h b K xs x y o g) (hR : Rel W M) (hn : o < n) (hi : i + 7 ≤ K) (hK : K ≤ 3584) : lwE b K xs x y o g i n w W (L 400 0 1235 [some (.ref b), some (.ref x), some (.ref y), some (.ref o), some (.int (iI i)), l5, l6, l7, l8] [] (dkW (mdW h y M) x W, n, w, g)) := by
  obtain ⟨t1, e1, b1⟩ := iI_ex (xs ((i : Int) + 1).toNat)
  obtain ⟨t2, e2, b2⟩ := iI_ex (xs ((i : Int) + 2).toNat)
  obtain ⟨t3, e3, b3⟩ := iI_ex (xs ((i : Int) + 3).toNat)
  have A : Alk 0 [(eIA, 1)] x y g W M (fun H => aE 399 56 [.ref x, .int (iI t1), .int (iI t2), .int (iI t3)] H) (fun H => aE 400 223 [.ref y, .int (iI t1), .int (iI t2), .int (iI t3)] H) := c_setLoop (d := 387) (e := 391) (x := x) (y := y) (g := g) hR b1 b2 b3
  obtain ⟨h2, W', M', n1, w1, n', w', k, v, fo, hW, hD, hI2, ho, hR2, ht, hB, hk⟩ := wr_ok (w := w) (Wr := fun H => aE 400 13 [.ref x, .int (iI t1), .int (iI t2), .int (iI t3), .ref o] H) (P := fun _ => True) A hI hn tyT0 (by decide) (fun h' n' w' fo v hv hC ho => w_13 (d := 399) dk_0 hC ho) (fun E k hk h' n' w' hC => by
      simp only [List.mem_cons, Prod.mk.injEq, List.not_mem_nil, or_false] at hk
      obtain ⟨rfl, rfl⟩ := hk
      exact w_13_1 (d := 399) dk_0 hC)
  replace hW : aE 400 13 [.ref x, .int (iI t1), .int (iI t2), .int (iI t3), .ref o] (dkW (mdW h y M) x W, n, w, g) = some (.inl (some (.int (iI k))), (mdW (dkW h2 x W') y M, n1, w1, g)) := hW
  replace hD : aE 400 223 [.ref y, .int (iI t1), .int (iI t2), .int (iI t3)] (mdW (dkW h2 x W') y M, n1, w1, g) = some (.inl (some (.int v)), (mdW (dkW h2 x W') y M', n', w', g)) := hD
  have hth : aE 400 182 [.ref y] (mdW (dkW h2 x W') y M', n', w', g) = some (.inl (some (.int (iI k))), (mdW (dkW h2 x W') y M', n', w', g)) := by rw [r_thrown (d := 399), ht]
  have hb := lw_b (W := W) (M := M) hI
  have hb2 := lw_b2 (W := W') (M := M) hI2
  have ho2 := lw_oo (W := W') (M := M') hI2 ho
  refine ⟨h2, W', M', n', w', some (.int (iI k)), some (.int v), l7, l8, ?_, hI2, hR2, hB⟩
  rw [dm_comm (h := h2) hI2.2.2.2.2.2.1]
  rcases hk with ⟨rfl, hf, -⟩ | ⟨k1, k2⟩
  · simp (disch := omega) only [r0_1235, r0_1236, r0_1237, r0_1239, r0_1240, r0_1241, r0_1242, r0_1243, r0_1245, r0_1246, r0_1247, r0_1248, r0_1249, r0_1251, r0_1252, r0_1253, r0_1254, r0_1255, r0_1258, r0_1260, r0_1261, r0_1262, r0_1264, r0_1265, r0_1266, r0_1267, r0_1268, r0_1270, r0_1271, r0_1272, r0_1273, r0_1274, r0_1276, r0_1277, r0_1278, r0_1279, r0_1282, r0_1284, r0_1285, r0_1288, r0_1290, r0_1293, r0_1294, r0_1295, r0_1297, r0_1300, r0_1301, r0_1302, r0_1303, r0_1305, r0_1306, r0_1307, r0_1310, r0_1311, r0_1312, gI_F, iI_add, e1, e2, e3, hW, hD, hth, hb, hb2, md_0, c0_, kl_n, kl_i, kl_r, kl_z, kl_l, kl_d, catS_0, catS_c, cat_i, cat_l, cat_d, cat_r, cat_n, kC_r, kC_x, Option.bind_some, Option.toList_some, Option.toList_none, List.cons_append, List.nil_append, gB0, gB1, gB2, gB3, gB4, rvB, nI_iI, i0, i1, l0_, wr_s, aup_s, and_true, true_and, and_self, eq_self, if_true, if_false, Nat.zero_le, Nat.reduceAdd, Nat.reduceLeDiff, gN_I, gN_L, gN_P, bI_0, bI_ok, z0, z1, Bool.true_eq, Bool.false_eq_true, not_true_eq_false, not_false_eq_true, ho2, gL_1, hf, lc_eq]
  · simp (disch := omega) only [r0_1235, r0_1236, r0_1237, r0_1239, r0_1240, r0_1241, r0_1242, r0_1243, r0_1245, r0_1246, r0_1247, r0_1248, r0_1249, r0_1251, r0_1252, r0_1253, r0_1254, r0_1255, r0_1258, r0_1260, r0_1261, r0_1262, r0_1264, r0_1265, r0_1266, r0_1267, r0_1268, r0_1270, r0_1271, r0_1272, r0_1273, r0_1274, r0_1276, r0_1277, r0_1278, r0_1279, r0_1282, r0_1284, r0_1285, r0_1288, r0_1290, r0_1293, r0_1294, r0_1295, r0_1297, r0_1300, r0_1301, r0_1302, r0_1303, r0_1305, r0_1306, r0_1307, r0_1310, r0_1311, r0_1312, gI_F, iI_add, e1, e2, e3, hW, hD, hth, hb, hb2, md_0, c0_, kl_n, kl_i, kl_r, kl_z, kl_l, kl_d, catS_0, catS_c, cat_i, cat_l, cat_d, cat_r, cat_n, kC_r, kC_x, Option.bind_some, Option.toList_some, Option.toList_none, List.cons_append, List.nil_append, gB0, gB1, gB2, gB3, gB4, rvB, nI_iI, i0, i1, l0_, wr_s, aup_s, and_true, true_and, and_self, eq_self, if_true, if_false, Nat.zero_le, Nat.reduceAdd, Nat.reduceLeDiff, gN_I, gN_L, gN_P, bI_0, bI_ok, z0, z1, Bool.true_eq, Bool.false_eq_true, not_true_eq_false, not_false_eq_true, iI_nz k1 k2]

theorem lc_14 (hI : lwI h b K xs x y o g) (hR : Rel W M) (hn : o < n) (hi : i + 7 ≤ K) (hK : K ≤ 3584) : lwE b K xs x y o g i n w W (L 400 0 1315 [some (.ref b), some (.ref x), some (.ref y), some (.ref o), some (.int (iI i)), l5, l6, l7, l8] [] (dkW (mdW h y M) x W, n, w, g)) := by
  have A : Alk 0 [(eIS, 1)] x y g W M (fun H => aE 399 57 [.ref x] H) (fun H => aE 400 191 [.ref y] H) := c_openGroup (d := 387) (e := 391) (x := x) (y := y) (g := g) hR 
  obtain ⟨h2, W', M', n1, w1, n', w', k, v, fo, hW, hD, hI2, ho, hR2, ht, hB, hk⟩ := wr_ok (w := w) (Wr := fun H => aE 400 14 [.ref x, .ref o] H) (P := fun _ => True) A hI hn tyT0 (by decide) (fun h' n' w' fo v hv hC ho => w_14 (d := 399) dk_0 hC ho) (fun E k hk h' n' w' hC => by
      simp only [List.mem_cons, Prod.mk.injEq, List.not_mem_nil, or_false] at hk
      obtain ⟨rfl, rfl⟩ := hk
      exact w_14_1 (d := 399) dk_0 hC)
  replace hW : aE 400 14 [.ref x, .ref o] (dkW (mdW h y M) x W, n, w, g) = some (.inl (some (.int (iI k))), (mdW (dkW h2 x W') y M, n1, w1, g)) := hW
  replace hD : aE 400 191 [.ref y] (mdW (dkW h2 x W') y M, n1, w1, g) = some (.inl (some (.int v)), (mdW (dkW h2 x W') y M', n', w', g)) := hD
  have hth : aE 400 182 [.ref y] (mdW (dkW h2 x W') y M', n', w', g) = some (.inl (some (.int (iI k))), (mdW (dkW h2 x W') y M', n', w', g)) := by rw [r_thrown (d := 399), ht]
  have hb := lw_b (W := W) (M := M) hI
  have hb2 := lw_b2 (W := W') (M := M) hI2
  have ho2 := lw_oo (W := W') (M := M') hI2 ho
  refine ⟨h2, W', M', n', w', some (.int (iI k)), some (.int v), l7, l8, ?_, hI2, hR2, hB⟩
  rw [dm_comm (h := h2) hI2.2.2.2.2.2.1]
  rcases hk with ⟨rfl, hf, -⟩ | ⟨k1, k2⟩
  · simp (disch := omega) only [r0_1315, r0_1316, r0_1317, r0_1320, r0_1322, r0_1323, r0_1326, r0_1328, r0_1329, r0_1332, r0_1334, r0_1337, r0_1338, r0_1339, r0_1341, r0_1344, r0_1345, r0_1346, r0_1347, r0_1349, r0_1350, r0_1351, r0_1354, r0_1355, r0_1356, gI_F, iI_add, hW, hD, hth, hb, hb2, md_0, c0_, kl_n, kl_i, kl_r, kl_z, kl_l, kl_d, catS_0, catS_c, cat_i, cat_l, cat_d, cat_r, cat_n, kC_r, kC_x, Option.bind_some, Option.toList_some, Option.toList_none, List.cons_append, List.nil_append, gB0, gB1, gB2, gB3, gB4, rvB, nI_iI, i0, i1, l0_, wr_s, aup_s, and_true, true_and, and_self, eq_self, if_true, if_false, Nat.zero_le, Nat.reduceAdd, Nat.reduceLeDiff, gN_I, gN_L, gN_P, bI_0, bI_ok, z0, z1, Bool.true_eq, Bool.false_eq_true, not_true_eq_false, not_false_eq_true, ho2, gL_1, hf, lc_eq]
  · simp (disch := omega) only [r0_1315, r0_1316, r0_1317, r0_1320, r0_1322, r0_1323, r0_1326, r0_1328, r0_1329, r0_1332, r0_1334, r0_1337, r0_1338, r0_1339, r0_1341, r0_1344, r0_1345, r0_1346, r0_1347, r0_1349, r0_1350, r0_1351, r0_1354, r0_1355, r0_1356, gI_F, iI_add, hW, hD, hth, hb, hb2, md_0, c0_, kl_n, kl_i, kl_r, kl_z, kl_l, kl_d, catS_0, catS_c, cat_i, cat_l, cat_d, cat_r, cat_n, kC_r, kC_x, Option.bind_some, Option.toList_some, Option.toList_none, List.cons_append, List.nil_append, gB0, gB1, gB2, gB3, gB4, rvB, nI_iI, i0, i1, l0_, wr_s, aup_s, and_true, true_and, and_self, eq_self, if_true, if_false, Nat.zero_le, Nat.reduceAdd, Nat.reduceLeDiff, gN_I, gN_L, gN_P, bI_0, bI_ok, z0, z1, Bool.true_eq, Bool.false_eq_true, not_true_eq_false, not_false_eq_true, iI_nz k1 k2]

theorem lc_15 (hI : lwI h b K xs x y o g) (hR : Rel W M) (hn : o < n) (hi : i + 7 ≤ K) (hK : K ≤ 3584) : lwE b K xs x y o g i n w W (L 400 0 1359 [some (.ref b), some (.ref x), some (.ref y), some (.ref o), some (.int (iI i)), l5, l6, l7, l8] [] (dkW (mdW h y M) x W, n, w, g)) := by
  have A : Alk 1 [(eIS, 1)] x y g W M (fun H => aE 399 58 [.ref x] H) (fun H => aE 400 192 [.ref y] H) := c_closeGroup (d := 387) (e := 391) (x := x) (y := y) (g := g) hR 
  obtain ⟨h2, W', M', n1, w1, n', w', k, v, fo, hW, hD, hI2, ho, hR2, ht, hB, hk⟩ := wr_ok (w := w) (Wr := fun H => aE 400 15 [.ref x, .ref o] H) (P := fun z => z = iI 0 ∨ z = iI 1) A hI hn tyT1 (by decide) (fun h' n' w' fo v hv hC ho => by
    rcases hv with rfl | rfl
    · exact w_15 (d := 399) (p := False) dk_0 hC ho
    · exact w_15 (d := 399) (p := True) dk_0 hC ho) (fun E k hk h' n' w' hC => by
      simp only [List.mem_cons, Prod.mk.injEq, List.not_mem_nil, or_false] at hk
      obtain ⟨rfl, rfl⟩ := hk
      exact w_15_1 (d := 399) dk_0 hC)
  replace hW : aE 400 15 [.ref x, .ref o] (dkW (mdW h y M) x W, n, w, g) = some (.inl (some (.int (iI k))), (mdW (dkW h2 x W') y M, n1, w1, g)) := hW
  replace hD : aE 400 192 [.ref y] (mdW (dkW h2 x W') y M, n1, w1, g) = some (.inl (some (.int v)), (mdW (dkW h2 x W') y M', n', w', g)) := hD
  have hth : aE 400 182 [.ref y] (mdW (dkW h2 x W') y M', n', w', g) = some (.inl (some (.int (iI k))), (mdW (dkW h2 x W') y M', n', w', g)) := by rw [r_thrown (d := 399), ht]
  have hb := lw_b (W := W) (M := M) hI
  have hb2 := lw_b2 (W := W') (M := M) hI2
  have ho2 := lw_oo (W := W') (M := M') hI2 ho
  refine ⟨h2, W', M', n', w', some (.int (iI k)), some (.int v), l7, l8, ?_, hI2, hR2, hB⟩
  rw [dm_comm (h := h2) hI2.2.2.2.2.2.1]
  rcases hk with ⟨rfl, hf, hv⟩ | ⟨k1, k2⟩
  · have k1 : (iI 1).toInt64 = lI 1 := i_l (by omega) (by omega)
    have k0 : (iI 0).toInt64 = lI 0 := i_l (by omega) (by omega)
    have hne : (iI 1 = iI 0) = False := iI_nz (by decide) (by decide)
    rcases hv with rfl | rfl
    · simp (disch := omega) only [r0_1359, r0_1360, r0_1361, r0_1364, r0_1366, r0_1367, r0_1370, r0_1372, r0_1373, r0_1376, r0_1378, r0_1381, r0_1382, r0_1383, r0_1385, r0_1388, r0_1389, r0_1390, r0_1391, r0_1393, r0_1396, r0_1397, r0_1400, r0_1401, r0_1402, r0_1405, r0_1406, r0_1407, gI_F, iI_add, hW, hD, hth, hb, hb2, md_0, c0_, kl_n, kl_i, kl_r, kl_z, kl_l, kl_d, catS_0, catS_c, cat_i, cat_l, cat_d, cat_r, cat_n, kC_r, kC_x, Option.bind_some, Option.toList_some, Option.toList_none, List.cons_append, List.nil_append, gB0, gB1, gB2, gB3, gB4, rvB, nI_iI, i0, i1, l0_, wr_s, aup_s, and_true, true_and, and_self, eq_self, if_true, if_false, Nat.zero_le, Nat.reduceAdd, Nat.reduceLeDiff, gN_I, gN_L, gN_P, bI_0, bI_ok, z0, z1, Bool.true_eq, Bool.false_eq_true, not_true_eq_false, not_false_eq_true, ho2, gL_1, hf, k0, lc_eq]
    · simp (disch := omega) only [r0_1359, r0_1360, r0_1361, r0_1364, r0_1366, r0_1367, r0_1370, r0_1372, r0_1373, r0_1376, r0_1378, r0_1381, r0_1382, r0_1383, r0_1385, r0_1388, r0_1389, r0_1390, r0_1391, r0_1393, r0_1396, r0_1397, r0_1400, r0_1401, r0_1402, r0_1405, r0_1406, r0_1407, gI_F, iI_add, hW, hD, hth, hb, hb2, md_0, c0_, kl_n, kl_i, kl_r, kl_z, kl_l, kl_d, catS_0, catS_c, cat_i, cat_l, cat_d, cat_r, cat_n, kC_r, kC_x, Option.bind_some, Option.toList_some, Option.toList_none, List.cons_append, List.nil_append, gB0, gB1, gB2, gB3, gB4, rvB, nI_iI, i0, i1, l0_, wr_s, aup_s, and_true, true_and, and_self, eq_self, if_true, if_false, Nat.zero_le, Nat.reduceAdd, Nat.reduceLeDiff, gN_I, gN_L, gN_P, bI_0, bI_ok, z0, z1, Bool.true_eq, Bool.false_eq_true, not_true_eq_false, not_false_eq_true, ho2, gL_1, hf, k1, lc_eq, hne]
  · simp (disch := omega) only [r0_1359, r0_1360, r0_1361, r0_1364, r0_1366, r0_1367, r0_1370, r0_1372, r0_1373, r0_1376, r0_1378, r0_1381, r0_1382, r0_1383, r0_1385, r0_1388, r0_1389, r0_1390, r0_1391, r0_1393, r0_1396, r0_1397, r0_1400, r0_1401, r0_1402, r0_1405, r0_1406, r0_1407, gI_F, iI_add, hW, hD, hth, hb, hb2, md_0, c0_, kl_n, kl_i, kl_r, kl_z, kl_l, kl_d, catS_0, catS_c, cat_i, cat_l, cat_d, cat_r, cat_n, kC_r, kC_x, Option.bind_some, Option.toList_some, Option.toList_none, List.cons_append, List.nil_append, gB0, gB1, gB2, gB3, gB4, rvB, nI_iI, i0, i1, l0_, wr_s, aup_s, and_true, true_and, and_self, eq_self, if_true, if_false, Nat.zero_le, Nat.reduceAdd, Nat.reduceLeDiff, gN_I, gN_L, gN_P, bI_0, bI_ok, z0, z1, Bool.true_eq, Bool.false_eq_true, not_true_eq_false, not_false_eq_true, iI_nz k1 k2]

theorem lc_16 (hI : lwI h b K xs x y o g) (hR : Rel W M) (hn : o < n) (hi : i + 7 ≤ K) (hK : K ≤ 3584) : lwE b K xs x y o g i n w W (L 400 0 1410 [some (.ref b), some (.ref x), some (.ref y), some (.ref o), some (.int (iI i)), l5, l6, l7, l8] [] (dkW (mdW h y M) x W, n, w, g)) := by
  have A : Alk 0 [(eIS, 1)] x y g W M (fun H => aE 399 59 [.ref x] H) (fun H => aE 400 193 [.ref y] H) := c_undo (d := 387) (e := 391) (x := x) (y := y) (g := g) hR 
  obtain ⟨h2, W', M', n1, w1, n', w', k, v, fo, hW, hD, hI2, ho, hR2, ht, hB, hk⟩ := wr_ok (w := w) (Wr := fun H => aE 400 16 [.ref x, .ref o] H) (P := fun _ => True) A hI hn tyT0 (by decide) (fun h' n' w' fo v hv hC ho => w_16 (d := 399) dk_0 hC ho) (fun E k hk h' n' w' hC => by
      simp only [List.mem_cons, Prod.mk.injEq, List.not_mem_nil, or_false] at hk
      obtain ⟨rfl, rfl⟩ := hk
      exact w_16_1 (d := 399) dk_0 hC)
  replace hW : aE 400 16 [.ref x, .ref o] (dkW (mdW h y M) x W, n, w, g) = some (.inl (some (.int (iI k))), (mdW (dkW h2 x W') y M, n1, w1, g)) := hW
  replace hD : aE 400 193 [.ref y] (mdW (dkW h2 x W') y M, n1, w1, g) = some (.inl (some (.int v)), (mdW (dkW h2 x W') y M', n', w', g)) := hD
  have hth : aE 400 182 [.ref y] (mdW (dkW h2 x W') y M', n', w', g) = some (.inl (some (.int (iI k))), (mdW (dkW h2 x W') y M', n', w', g)) := by rw [r_thrown (d := 399), ht]
  have hb := lw_b (W := W) (M := M) hI
  have hb2 := lw_b2 (W := W') (M := M) hI2
  have ho2 := lw_oo (W := W') (M := M') hI2 ho
  refine ⟨h2, W', M', n', w', some (.int (iI k)), some (.int v), l7, l8, ?_, hI2, hR2, hB⟩
  rw [dm_comm (h := h2) hI2.2.2.2.2.2.1]
  rcases hk with ⟨rfl, hf, -⟩ | ⟨k1, k2⟩
  · simp (disch := omega) only [r0_1410, r0_1411, r0_1412, r0_1415, r0_1417, r0_1418, r0_1421, r0_1423, r0_1424, r0_1427, r0_1429, r0_1432, r0_1433, r0_1434, r0_1436, r0_1439, r0_1440, r0_1441, r0_1442, r0_1444, r0_1445, r0_1446, r0_1449, r0_1450, r0_1451, gI_F, iI_add, hW, hD, hth, hb, hb2, md_0, c0_, kl_n, kl_i, kl_r, kl_z, kl_l, kl_d, catS_0, catS_c, cat_i, cat_l, cat_d, cat_r, cat_n, kC_r, kC_x, Option.bind_some, Option.toList_some, Option.toList_none, List.cons_append, List.nil_append, gB0, gB1, gB2, gB3, gB4, rvB, nI_iI, i0, i1, l0_, wr_s, aup_s, and_true, true_and, and_self, eq_self, if_true, if_false, Nat.zero_le, Nat.reduceAdd, Nat.reduceLeDiff, gN_I, gN_L, gN_P, bI_0, bI_ok, z0, z1, Bool.true_eq, Bool.false_eq_true, not_true_eq_false, not_false_eq_true, ho2, gL_1, hf, lc_eq]
  · simp (disch := omega) only [r0_1410, r0_1411, r0_1412, r0_1415, r0_1417, r0_1418, r0_1421, r0_1423, r0_1424, r0_1427, r0_1429, r0_1432, r0_1433, r0_1434, r0_1436, r0_1439, r0_1440, r0_1441, r0_1442, r0_1444, r0_1445, r0_1446, r0_1449, r0_1450, r0_1451, gI_F, iI_add, hW, hD, hth, hb, hb2, md_0, c0_, kl_n, kl_i, kl_r, kl_z, kl_l, kl_d, catS_0, catS_c, cat_i, cat_l, cat_d, cat_r, cat_n, kC_r, kC_x, Option.bind_some, Option.toList_some, Option.toList_none, List.cons_append, List.nil_append, gB0, gB1, gB2, gB3, gB4, rvB, nI_iI, i0, i1, l0_, wr_s, aup_s, and_true, true_and, and_self, eq_self, if_true, if_false, Nat.zero_le, Nat.reduceAdd, Nat.reduceLeDiff, gN_I, gN_L, gN_P, bI_0, bI_ok, z0, z1, Bool.true_eq, Bool.false_eq_true, not_true_eq_false, not_false_eq_true, iI_nz k1 k2]

theorem lc_17 (hI : lwI h b K xs x y o g) (hR : Rel W M) (hn : o < n) (hi : i + 7 ≤ K) (hK : K ≤ 3584) : lwE b K xs x y o g i n w W (L 400 0 1454 [some (.ref b), some (.ref x), some (.ref y), some (.ref o), some (.int (iI i)), l5, l6, l7, l8] [] (dkW (mdW h y M) x W, n, w, g)) := by
  have A : Alk 0 [(eIS, 1)] x y g W M (fun H => aE 399 60 [.ref x] H) (fun H => aE 400 194 [.ref y] H) := c_redo (d := 387) (e := 391) (x := x) (y := y) (g := g) hR 
  obtain ⟨h2, W', M', n1, w1, n', w', k, v, fo, hW, hD, hI2, ho, hR2, ht, hB, hk⟩ := wr_ok (w := w) (Wr := fun H => aE 400 17 [.ref x, .ref o] H) (P := fun _ => True) A hI hn tyT0 (by decide) (fun h' n' w' fo v hv hC ho => w_17 (d := 399) dk_0 hC ho) (fun E k hk h' n' w' hC => by
      simp only [List.mem_cons, Prod.mk.injEq, List.not_mem_nil, or_false] at hk
      obtain ⟨rfl, rfl⟩ := hk
      exact w_17_1 (d := 399) dk_0 hC)
  replace hW : aE 400 17 [.ref x, .ref o] (dkW (mdW h y M) x W, n, w, g) = some (.inl (some (.int (iI k))), (mdW (dkW h2 x W') y M, n1, w1, g)) := hW
  replace hD : aE 400 194 [.ref y] (mdW (dkW h2 x W') y M, n1, w1, g) = some (.inl (some (.int v)), (mdW (dkW h2 x W') y M', n', w', g)) := hD
  have hth : aE 400 182 [.ref y] (mdW (dkW h2 x W') y M', n', w', g) = some (.inl (some (.int (iI k))), (mdW (dkW h2 x W') y M', n', w', g)) := by rw [r_thrown (d := 399), ht]
  have hb := lw_b (W := W) (M := M) hI
  have hb2 := lw_b2 (W := W') (M := M) hI2
  have ho2 := lw_oo (W := W') (M := M') hI2 ho
  refine ⟨h2, W', M', n', w', some (.int (iI k)), some (.int v), l7, l8, ?_, hI2, hR2, hB⟩
  rw [dm_comm (h := h2) hI2.2.2.2.2.2.1]
  rcases hk with ⟨rfl, hf, -⟩ | ⟨k1, k2⟩
  · simp (disch := omega) only [r0_1454, r0_1455, r0_1456, r0_1459, r0_1461, r0_1462, r0_1465, r0_1467, r0_1468, r0_1471, r0_1473, r0_1476, r0_1477, r0_1478, r0_1480, r0_1483, r0_1484, r0_1485, r0_1486, r0_1488, r0_1489, r0_1490, r0_1493, r0_1494, r0_1495, gI_F, iI_add, hW, hD, hth, hb, hb2, md_0, c0_, kl_n, kl_i, kl_r, kl_z, kl_l, kl_d, catS_0, catS_c, cat_i, cat_l, cat_d, cat_r, cat_n, kC_r, kC_x, Option.bind_some, Option.toList_some, Option.toList_none, List.cons_append, List.nil_append, gB0, gB1, gB2, gB3, gB4, rvB, nI_iI, i0, i1, l0_, wr_s, aup_s, and_true, true_and, and_self, eq_self, if_true, if_false, Nat.zero_le, Nat.reduceAdd, Nat.reduceLeDiff, gN_I, gN_L, gN_P, bI_0, bI_ok, z0, z1, Bool.true_eq, Bool.false_eq_true, not_true_eq_false, not_false_eq_true, ho2, gL_1, hf, lc_eq]
  · simp (disch := omega) only [r0_1454, r0_1455, r0_1456, r0_1459, r0_1461, r0_1462, r0_1465, r0_1467, r0_1468, r0_1471, r0_1473, r0_1476, r0_1477, r0_1478, r0_1480, r0_1483, r0_1484, r0_1485, r0_1486, r0_1488, r0_1489, r0_1490, r0_1493, r0_1494, r0_1495, gI_F, iI_add, hW, hD, hth, hb, hb2, md_0, c0_, kl_n, kl_i, kl_r, kl_z, kl_l, kl_d, catS_0, catS_c, cat_i, cat_l, cat_d, cat_r, cat_n, kC_r, kC_x, Option.bind_some, Option.toList_some, Option.toList_none, List.cons_append, List.nil_append, gB0, gB1, gB2, gB3, gB4, rvB, nI_iI, i0, i1, l0_, wr_s, aup_s, and_true, true_and, and_self, eq_self, if_true, if_false, Nat.zero_le, Nat.reduceAdd, Nat.reduceLeDiff, gN_I, gN_L, gN_P, bI_0, bI_ok, z0, z1, Bool.true_eq, Bool.false_eq_true, not_true_eq_false, not_false_eq_true, iI_nz k1 k2]

theorem lc_18 (hI : lwI h b K xs x y o g) (hR : Rel W M) (hn : o < n) (hi : i + 7 ≤ K) (hK : K ≤ 3584) : lwE b K xs x y o g i n w W (L 400 0 1498 [some (.ref b), some (.ref x), some (.ref y), some (.ref o), some (.int (iI i)), l5, l6, l7, l8] [] (dkW (mdW h y M) x W, n, w, g)) := by
  have A : Alk 0 [] x y g W M (fun H => aE 400 61 [.ref x] H) (fun H => aE 400 195 [.ref y] H) := c_undos (d := 388) (e := 391) (x := x) (y := y) (g := g) hR
  obtain ⟨W', M', n', w', v, hv, hC, hD, hR2, hB⟩ := dr_ok (w := w) A hI hn
  obtain ⟨v, rfl⟩ := hv
  replace hC : aE 400 61 [.ref x] (dkW (mdW h y M) x W, n, w, g) = some (.inl (some (.int v)), (mdW (dkW h x W') y M, n, w, g)) := hC
  replace hD : aE 400 195 [.ref y] (mdW (dkW h x W') y M, n, w, g) = some (.inl (some (.int v)), (mdW (dkW h x W') y M', n', w', g)) := hD
  refine ⟨h, W', M', n', w', l5, l6, l7, l8, ?_, hI, hR2, hB⟩
  rw [dm_comm (h := h) (M := M') hI.2.2.2.2.2.1]
  simp (disch := omega) only [r0_1498, r0_1499, r0_1502, r0_1503, r0_1506, r0_1509, r0_1510, hC, hD, md_0, dk_0, kl_n, kl_i, kl_r, kl_z, kl_l, kl_d, catS_0, catS_c, cat_i, cat_l, cat_d, cat_r, cat_n, kC_r, kC_x, Option.bind_some, Option.toList_some, Option.toList_none, List.cons_append, List.nil_append, gB0, gB1, gB2, gB3, gB4, rvB, nI_iI, i0, i1, l0_, wr_s, aup_s, and_true, true_and, and_self, eq_self, if_true, if_false, Nat.zero_le, Nat.reduceAdd, Nat.reduceLeDiff, gN_I, gN_L, gN_P, bI_0, bI_ok, z0, z1, Bool.true_eq, Bool.false_eq_true, not_true_eq_false, not_false_eq_true]

theorem lc_19 (hI : lwI h b K xs x y o g) (hR : Rel W M) (hn : o < n) (hi : i + 7 ≤ K) (hK : K ≤ 3584) : lwE b K xs x y o g i n w W (L 400 0 1511 [some (.ref b), some (.ref x), some (.ref y), some (.ref o), some (.int (iI i)), l5, l6, l7, l8] [] (dkW (mdW h y M) x W, n, w, g)) := by
  have A : Alk 0 [] x y g W M (fun H => aE 400 62 [.ref x] H) (fun H => aE 400 196 [.ref y] H) := c_redos (d := 388) (e := 391) (x := x) (y := y) (g := g) hR
  obtain ⟨W', M', n', w', v, hv, hC, hD, hR2, hB⟩ := dr_ok (w := w) A hI hn
  obtain ⟨v, rfl⟩ := hv
  replace hC : aE 400 62 [.ref x] (dkW (mdW h y M) x W, n, w, g) = some (.inl (some (.int v)), (mdW (dkW h x W') y M, n, w, g)) := hC
  replace hD : aE 400 196 [.ref y] (mdW (dkW h x W') y M, n, w, g) = some (.inl (some (.int v)), (mdW (dkW h x W') y M', n', w', g)) := hD
  refine ⟨h, W', M', n', w', l5, l6, l7, l8, ?_, hI, hR2, hB⟩
  rw [dm_comm (h := h) (M := M') hI.2.2.2.2.2.1]
  simp (disch := omega) only [r0_1511, r0_1512, r0_1515, r0_1516, r0_1519, r0_1522, r0_1523, hC, hD, md_0, dk_0, kl_n, kl_i, kl_r, kl_z, kl_l, kl_d, catS_0, catS_c, cat_i, cat_l, cat_d, cat_r, cat_n, kC_r, kC_x, Option.bind_some, Option.toList_some, Option.toList_none, List.cons_append, List.nil_append, gB0, gB1, gB2, gB3, gB4, rvB, nI_iI, i0, i1, l0_, wr_s, aup_s, and_true, true_and, and_self, eq_self, if_true, if_false, Nat.zero_le, Nat.reduceAdd, Nat.reduceLeDiff, gN_I, gN_L, gN_P, bI_0, bI_ok, z0, z1, Bool.true_eq, Bool.false_eq_true, not_true_eq_false, not_false_eq_true]

theorem lc_20 (hI : lwI h b K xs x y o g) (hR : Rel W M) (hn : o < n) (hi : i + 7 ≤ K) (hK : K ≤ 3584) : lwE b K xs x y o g i n w W (L 400 0 1524 [some (.ref b), some (.ref x), some (.ref y), some (.ref o), some (.int (iI i)), l5, l6, l7, l8] [] (dkW (mdW h y M) x W, n, w, g)) := by
  obtain ⟨t1, e1, b1⟩ := iI_ex (xs ((i : Int) + 1).toNat)
  have A : Alk 0 [(eIA, 1)] x y g W M (fun H => aE 399 64 [.ref x, .int (iI t1)] H) (fun H => aE 400 225 [.ref y, .int (iI t1)] H) := c_timeOf (d := 387) (e := 391) (x := x) (y := y) (g := g) hR b1
  obtain ⟨h2, W', M', n1, w1, n', w', k, v, fo, hW, hD, hI2, ho, hR2, ht, hB, hk⟩ := wr_ok (w := w) (Wr := fun H => aE 400 18 [.ref x, .int (iI t1), .ref o] H) (P := fun _ => True) A hI hn tyT0 (by decide) (fun h' n' w' fo v hv hC ho => w_18 (d := 399) dk_0 hC ho) (fun E k hk h' n' w' hC => by
      simp only [List.mem_cons, Prod.mk.injEq, List.not_mem_nil, or_false] at hk
      obtain ⟨rfl, rfl⟩ := hk
      exact w_18_1 (d := 399) dk_0 hC)
  replace hW : aE 400 18 [.ref x, .int (iI t1), .ref o] (dkW (mdW h y M) x W, n, w, g) = some (.inl (some (.int (iI k))), (mdW (dkW h2 x W') y M, n1, w1, g)) := hW
  replace hD : aE 400 225 [.ref y, .int (iI t1)] (mdW (dkW h2 x W') y M, n1, w1, g) = some (.inl (some (.int v)), (mdW (dkW h2 x W') y M', n', w', g)) := hD
  have hth : aE 400 182 [.ref y] (mdW (dkW h2 x W') y M', n', w', g) = some (.inl (some (.int (iI k))), (mdW (dkW h2 x W') y M', n', w', g)) := by rw [r_thrown (d := 399), ht]
  have hb := lw_b (W := W) (M := M) hI
  have hb2 := lw_b2 (W := W') (M := M) hI2
  have ho2 := lw_oo (W := W') (M := M') hI2 ho
  refine ⟨h2, W', M', n', w', some (.int (iI k)), some (.int v), l7, l8, ?_, hI2, hR2, hB⟩
  rw [dm_comm (h := h2) hI2.2.2.2.2.2.1]
  rcases hk with ⟨rfl, hf, -⟩ | ⟨k1, k2⟩
  · simp (disch := omega) only [r0_1524, r0_1525, r0_1526, r0_1528, r0_1529, r0_1530, r0_1531, r0_1532, r0_1535, r0_1537, r0_1538, r0_1539, r0_1541, r0_1542, r0_1543, r0_1544, r0_1547, r0_1549, r0_1550, r0_1553, r0_1555, r0_1558, r0_1559, r0_1560, r0_1562, r0_1565, r0_1566, r0_1567, r0_1568, r0_1570, r0_1571, r0_1572, r0_1575, r0_1576, r0_1577, gI_F, iI_add, e1, hW, hD, hth, hb, hb2, md_0, c0_, kl_n, kl_i, kl_r, kl_z, kl_l, kl_d, catS_0, catS_c, cat_i, cat_l, cat_d, cat_r, cat_n, kC_r, kC_x, Option.bind_some, Option.toList_some, Option.toList_none, List.cons_append, List.nil_append, gB0, gB1, gB2, gB3, gB4, rvB, nI_iI, i0, i1, l0_, wr_s, aup_s, and_true, true_and, and_self, eq_self, if_true, if_false, Nat.zero_le, Nat.reduceAdd, Nat.reduceLeDiff, gN_I, gN_L, gN_P, bI_0, bI_ok, z0, z1, Bool.true_eq, Bool.false_eq_true, not_true_eq_false, not_false_eq_true, ho2, gL_1, hf, lc_eq]
  · simp (disch := omega) only [r0_1524, r0_1525, r0_1526, r0_1528, r0_1529, r0_1530, r0_1531, r0_1532, r0_1535, r0_1537, r0_1538, r0_1539, r0_1541, r0_1542, r0_1543, r0_1544, r0_1547, r0_1549, r0_1550, r0_1553, r0_1555, r0_1558, r0_1559, r0_1560, r0_1562, r0_1565, r0_1566, r0_1567, r0_1568, r0_1570, r0_1571, r0_1572, r0_1575, r0_1576, r0_1577, gI_F, iI_add, e1, hW, hD, hth, hb, hb2, md_0, c0_, kl_n, kl_i, kl_r, kl_z, kl_l, kl_d, catS_0, catS_c, cat_i, cat_l, cat_d, cat_r, cat_n, kC_r, kC_x, Option.bind_some, Option.toList_some, Option.toList_none, List.cons_append, List.nil_append, gB0, gB1, gB2, gB3, gB4, rvB, nI_iI, i0, i1, l0_, wr_s, aup_s, and_true, true_and, and_self, eq_self, if_true, if_false, Nat.zero_le, Nat.reduceAdd, Nat.reduceLeDiff, gN_I, gN_L, gN_P, bI_0, bI_ok, z0, z1, Bool.true_eq, Bool.false_eq_true, not_true_eq_false, not_false_eq_true, iI_nz k1 k2]

theorem lc_21 (hI : lwI h b K xs x y o g) (hR : Rel W M) (hn : o < n) (hi : i + 7 ≤ K) (hK : K ≤ 3584) : lwE b K xs x y o g i n w W (L 400 0 1580 [some (.ref b), some (.ref x), some (.ref y), some (.ref o), some (.int (iI i)), l5, l6, l7, l8] [] (dkW (mdW h y M) x W, n, w, g)) := by
  obtain ⟨t1, e1, b1⟩ := iI_ex (xs ((i : Int) + 1).toNat)
  have A : Alk 0 [(eIA, 1)] x y g W M (fun H => aE 399 65 [.ref x, .int (iI t1)] H) (fun H => aE 400 227 [.ref y, .int (iI t1)] H) := c_tickOf (d := 387) (e := 391) (x := x) (y := y) (g := g) hR b1
  obtain ⟨h2, W', M', n1, w1, n', w', k, v, fo, hW, hD, hI2, ho, hR2, ht, hB, hk⟩ := wr_ok (w := w) (Wr := fun H => aE 400 19 [.ref x, .int (iI t1), .ref o] H) (P := fun _ => True) A hI hn tyT0 (by decide) (fun h' n' w' fo v hv hC ho => w_19 (d := 399) dk_0 hC ho) (fun E k hk h' n' w' hC => by
      simp only [List.mem_cons, Prod.mk.injEq, List.not_mem_nil, or_false] at hk
      obtain ⟨rfl, rfl⟩ := hk
      exact w_19_1 (d := 399) dk_0 hC)
  replace hW : aE 400 19 [.ref x, .int (iI t1), .ref o] (dkW (mdW h y M) x W, n, w, g) = some (.inl (some (.int (iI k))), (mdW (dkW h2 x W') y M, n1, w1, g)) := hW
  replace hD : aE 400 227 [.ref y, .int (iI t1)] (mdW (dkW h2 x W') y M, n1, w1, g) = some (.inl (some (.int v)), (mdW (dkW h2 x W') y M', n', w', g)) := hD
  have hth : aE 400 182 [.ref y] (mdW (dkW h2 x W') y M', n', w', g) = some (.inl (some (.int (iI k))), (mdW (dkW h2 x W') y M', n', w', g)) := by rw [r_thrown (d := 399), ht]
  have hb := lw_b (W := W) (M := M) hI
  have hb2 := lw_b2 (W := W') (M := M) hI2
  have ho2 := lw_oo (W := W') (M := M') hI2 ho
  refine ⟨h2, W', M', n', w', some (.int (iI k)), some (.int v), l7, l8, ?_, hI2, hR2, hB⟩
  rw [dm_comm (h := h2) hI2.2.2.2.2.2.1]
  rcases hk with ⟨rfl, hf, -⟩ | ⟨k1, k2⟩
  · simp (disch := omega) only [r0_1580, r0_1581, r0_1582, r0_1584, r0_1585, r0_1586, r0_1587, r0_1588, r0_1591, r0_1593, r0_1594, r0_1595, r0_1597, r0_1598, r0_1599, r0_1600, r0_1603, r0_1605, r0_1606, r0_1609, r0_1611, r0_1614, r0_1615, r0_1616, r0_1618, r0_1621, r0_1622, r0_1623, r0_1624, r0_1626, r0_1627, r0_1628, r0_1631, r0_1632, r0_1633, gI_F, iI_add, e1, hW, hD, hth, hb, hb2, md_0, c0_, kl_n, kl_i, kl_r, kl_z, kl_l, kl_d, catS_0, catS_c, cat_i, cat_l, cat_d, cat_r, cat_n, kC_r, kC_x, Option.bind_some, Option.toList_some, Option.toList_none, List.cons_append, List.nil_append, gB0, gB1, gB2, gB3, gB4, rvB, nI_iI, i0, i1, l0_, wr_s, aup_s, and_true, true_and, and_self, eq_self, if_true, if_false, Nat.zero_le, Nat.reduceAdd, Nat.reduceLeDiff, gN_I, gN_L, gN_P, bI_0, bI_ok, z0, z1, Bool.true_eq, Bool.false_eq_true, not_true_eq_false, not_false_eq_true, ho2, gL_1, hf, lc_eq]
  · simp (disch := omega) only [r0_1580, r0_1581, r0_1582, r0_1584, r0_1585, r0_1586, r0_1587, r0_1588, r0_1591, r0_1593, r0_1594, r0_1595, r0_1597, r0_1598, r0_1599, r0_1600, r0_1603, r0_1605, r0_1606, r0_1609, r0_1611, r0_1614, r0_1615, r0_1616, r0_1618, r0_1621, r0_1622, r0_1623, r0_1624, r0_1626, r0_1627, r0_1628, r0_1631, r0_1632, r0_1633, gI_F, iI_add, e1, hW, hD, hth, hb, hb2, md_0, c0_, kl_n, kl_i, kl_r, kl_z, kl_l, kl_d, catS_0, catS_c, cat_i, cat_l, cat_d, cat_r, cat_n, kC_r, kC_x, Option.bind_some, Option.toList_some, Option.toList_none, List.cons_append, List.nil_append, gB0, gB1, gB2, gB3, gB4, rvB, nI_iI, i0, i1, l0_, wr_s, aup_s, and_true, true_and, and_self, eq_self, if_true, if_false, Nat.zero_le, Nat.reduceAdd, Nat.reduceLeDiff, gN_I, gN_L, gN_P, bI_0, bI_ok, z0, z1, Bool.true_eq, Bool.false_eq_true, not_true_eq_false, not_false_eq_true, iI_nz k1 k2]

theorem lc_22 (hI : lwI h b K xs x y o g) (hR : Rel W M) (hn : o < n) (hi : i + 7 ≤ K) (hK : K ≤ 3584) : lwE b K xs x y o g i n w W (L 400 0 1636 [some (.ref b), some (.ref x), some (.ref y), some (.ref o), some (.int (iI i)), l5, l6, l7, l8] [] (dkW (mdW h y M) x W, n, w, g)) := by
  obtain ⟨t1, e1, b1⟩ := iI_ex (xs ((i : Int) + 1).toNat)
  have A : Alk 0 [(eIA, 1)] x y g W M (fun H => aE 399 66 [.ref x, .int (iI t1)] H) (fun H => aE 400 233 [.ref y, .int (iI t1)] H) := c_barOf (d := 387) (e := 391) (x := x) (y := y) (g := g) hR b1
  obtain ⟨h2, W', M', n1, w1, n', w', k, v, fo, hW, hD, hI2, ho, hR2, ht, hB, hk⟩ := wr_ok (w := w) (Wr := fun H => aE 400 20 [.ref x, .int (iI t1), .ref o] H) (P := fun _ => True) A hI hn tyT0 (by decide) (fun h' n' w' fo v hv hC ho => w_20 (d := 399) dk_0 hC ho) (fun E k hk h' n' w' hC => by
      simp only [List.mem_cons, Prod.mk.injEq, List.not_mem_nil, or_false] at hk
      obtain ⟨rfl, rfl⟩ := hk
      exact w_20_1 (d := 399) dk_0 hC)
  replace hW : aE 400 20 [.ref x, .int (iI t1), .ref o] (dkW (mdW h y M) x W, n, w, g) = some (.inl (some (.int (iI k))), (mdW (dkW h2 x W') y M, n1, w1, g)) := hW
  replace hD : aE 400 233 [.ref y, .int (iI t1)] (mdW (dkW h2 x W') y M, n1, w1, g) = some (.inl (some (.int v)), (mdW (dkW h2 x W') y M', n', w', g)) := hD
  have hth : aE 400 182 [.ref y] (mdW (dkW h2 x W') y M', n', w', g) = some (.inl (some (.int (iI k))), (mdW (dkW h2 x W') y M', n', w', g)) := by rw [r_thrown (d := 399), ht]
  have hb := lw_b (W := W) (M := M) hI
  have hb2 := lw_b2 (W := W') (M := M) hI2
  have ho2 := lw_oo (W := W') (M := M') hI2 ho
  refine ⟨h2, W', M', n', w', some (.int (iI k)), some (.int v), l7, l8, ?_, hI2, hR2, hB⟩
  rw [dm_comm (h := h2) hI2.2.2.2.2.2.1]
  rcases hk with ⟨rfl, hf, -⟩ | ⟨k1, k2⟩
  · simp (disch := omega) only [r0_1636, r0_1637, r0_1638, r0_1640, r0_1641, r0_1642, r0_1643, r0_1644, r0_1647, r0_1649, r0_1650, r0_1651, r0_1653, r0_1654, r0_1655, r0_1656, r0_1659, r0_1661, r0_1662, r0_1665, r0_1667, r0_1670, r0_1671, r0_1672, r0_1674, r0_1677, r0_1678, r0_1679, r0_1680, r0_1682, r0_1683, r0_1684, r0_1687, r0_1688, r0_1689, gI_F, iI_add, e1, hW, hD, hth, hb, hb2, md_0, c0_, kl_n, kl_i, kl_r, kl_z, kl_l, kl_d, catS_0, catS_c, cat_i, cat_l, cat_d, cat_r, cat_n, kC_r, kC_x, Option.bind_some, Option.toList_some, Option.toList_none, List.cons_append, List.nil_append, gB0, gB1, gB2, gB3, gB4, rvB, nI_iI, i0, i1, l0_, wr_s, aup_s, and_true, true_and, and_self, eq_self, if_true, if_false, Nat.zero_le, Nat.reduceAdd, Nat.reduceLeDiff, gN_I, gN_L, gN_P, bI_0, bI_ok, z0, z1, Bool.true_eq, Bool.false_eq_true, not_true_eq_false, not_false_eq_true, ho2, gL_1, hf, lc_eq]
  · simp (disch := omega) only [r0_1636, r0_1637, r0_1638, r0_1640, r0_1641, r0_1642, r0_1643, r0_1644, r0_1647, r0_1649, r0_1650, r0_1651, r0_1653, r0_1654, r0_1655, r0_1656, r0_1659, r0_1661, r0_1662, r0_1665, r0_1667, r0_1670, r0_1671, r0_1672, r0_1674, r0_1677, r0_1678, r0_1679, r0_1680, r0_1682, r0_1683, r0_1684, r0_1687, r0_1688, r0_1689, gI_F, iI_add, e1, hW, hD, hth, hb, hb2, md_0, c0_, kl_n, kl_i, kl_r, kl_z, kl_l, kl_d, catS_0, catS_c, cat_i, cat_l, cat_d, cat_r, cat_n, kC_r, kC_x, Option.bind_some, Option.toList_some, Option.toList_none, List.cons_append, List.nil_append, gB0, gB1, gB2, gB3, gB4, rvB, nI_iI, i0, i1, l0_, wr_s, aup_s, and_true, true_and, and_self, eq_self, if_true, if_false, Nat.zero_le, Nat.reduceAdd, Nat.reduceLeDiff, gN_I, gN_L, gN_P, bI_0, bI_ok, z0, z1, Bool.true_eq, Bool.false_eq_true, not_true_eq_false, not_false_eq_true, iI_nz k1 k2]

theorem lc_23 (hI : lwI h b K xs x y o g) (hR : Rel W M) (hn : o < n) (hi : i + 7 ≤ K) (hK : K ≤ 3584) : lwE b K xs x y o g i n w W (L 400 0 1692 [some (.ref b), some (.ref x), some (.ref y), some (.ref o), some (.int (iI i)), l5, l6, l7, l8] [] (dkW (mdW h y M) x W, n, w, g)) := by
  obtain ⟨t1, e1, b1⟩ := iI_ex (xs ((i : Int) + 1).toNat)
  have A : Alk 0 [(eIA, 1)] x y g W M (fun H => aE 399 67 [.ref x, .int (iI t1)] H) (fun H => aE 400 235 [.ref y, .int (iI t1)] H) := c_beatOf (d := 387) (e := 391) (x := x) (y := y) (g := g) hR b1
  obtain ⟨h2, W', M', n1, w1, n', w', k, v, fo, hW, hD, hI2, ho, hR2, ht, hB, hk⟩ := wr_ok (w := w) (Wr := fun H => aE 400 21 [.ref x, .int (iI t1), .ref o] H) (P := fun _ => True) A hI hn tyT0 (by decide) (fun h' n' w' fo v hv hC ho => w_21 (d := 399) dk_0 hC ho) (fun E k hk h' n' w' hC => by
      simp only [List.mem_cons, Prod.mk.injEq, List.not_mem_nil, or_false] at hk
      obtain ⟨rfl, rfl⟩ := hk
      exact w_21_1 (d := 399) dk_0 hC)
  replace hW : aE 400 21 [.ref x, .int (iI t1), .ref o] (dkW (mdW h y M) x W, n, w, g) = some (.inl (some (.int (iI k))), (mdW (dkW h2 x W') y M, n1, w1, g)) := hW
  replace hD : aE 400 235 [.ref y, .int (iI t1)] (mdW (dkW h2 x W') y M, n1, w1, g) = some (.inl (some (.int v)), (mdW (dkW h2 x W') y M', n', w', g)) := hD
  have hth : aE 400 182 [.ref y] (mdW (dkW h2 x W') y M', n', w', g) = some (.inl (some (.int (iI k))), (mdW (dkW h2 x W') y M', n', w', g)) := by rw [r_thrown (d := 399), ht]
  have hb := lw_b (W := W) (M := M) hI
  have hb2 := lw_b2 (W := W') (M := M) hI2
  have ho2 := lw_oo (W := W') (M := M') hI2 ho
  refine ⟨h2, W', M', n', w', some (.int (iI k)), some (.int v), l7, l8, ?_, hI2, hR2, hB⟩
  rw [dm_comm (h := h2) hI2.2.2.2.2.2.1]
  rcases hk with ⟨rfl, hf, -⟩ | ⟨k1, k2⟩
  · simp (disch := omega) only [r0_1692, r0_1693, r0_1694, r0_1696, r0_1697, r0_1698, r0_1699, r0_1700, r0_1703, r0_1705, r0_1706, r0_1707, r0_1709, r0_1710, r0_1711, r0_1712, r0_1715, r0_1717, r0_1718, r0_1721, r0_1723, r0_1726, r0_1727, r0_1728, r0_1730, r0_1733, r0_1734, r0_1735, r0_1736, r0_1738, r0_1739, r0_1740, r0_1743, r0_1744, r0_1745, gI_F, iI_add, e1, hW, hD, hth, hb, hb2, md_0, c0_, kl_n, kl_i, kl_r, kl_z, kl_l, kl_d, catS_0, catS_c, cat_i, cat_l, cat_d, cat_r, cat_n, kC_r, kC_x, Option.bind_some, Option.toList_some, Option.toList_none, List.cons_append, List.nil_append, gB0, gB1, gB2, gB3, gB4, rvB, nI_iI, i0, i1, l0_, wr_s, aup_s, and_true, true_and, and_self, eq_self, if_true, if_false, Nat.zero_le, Nat.reduceAdd, Nat.reduceLeDiff, gN_I, gN_L, gN_P, bI_0, bI_ok, z0, z1, Bool.true_eq, Bool.false_eq_true, not_true_eq_false, not_false_eq_true, ho2, gL_1, hf, lc_eq]
  · simp (disch := omega) only [r0_1692, r0_1693, r0_1694, r0_1696, r0_1697, r0_1698, r0_1699, r0_1700, r0_1703, r0_1705, r0_1706, r0_1707, r0_1709, r0_1710, r0_1711, r0_1712, r0_1715, r0_1717, r0_1718, r0_1721, r0_1723, r0_1726, r0_1727, r0_1728, r0_1730, r0_1733, r0_1734, r0_1735, r0_1736, r0_1738, r0_1739, r0_1740, r0_1743, r0_1744, r0_1745, gI_F, iI_add, e1, hW, hD, hth, hb, hb2, md_0, c0_, kl_n, kl_i, kl_r, kl_z, kl_l, kl_d, catS_0, catS_c, cat_i, cat_l, cat_d, cat_r, cat_n, kC_r, kC_x, Option.bind_some, Option.toList_some, Option.toList_none, List.cons_append, List.nil_append, gB0, gB1, gB2, gB3, gB4, rvB, nI_iI, i0, i1, l0_, wr_s, aup_s, and_true, true_and, and_self, eq_self, if_true, if_false, Nat.zero_le, Nat.reduceAdd, Nat.reduceLeDiff, gN_I, gN_L, gN_P, bI_0, bI_ok, z0, z1, Bool.true_eq, Bool.false_eq_true, not_true_eq_false, not_false_eq_true, iI_nz k1 k2]

theorem lc_24 (hI : lwI h b K xs x y o g) (hR : Rel W M) (hn : o < n) (hi : i + 7 ≤ K) (hK : K ≤ 3584) : lwE b K xs x y o g i n w W (L 400 0 1748 [some (.ref b), some (.ref x), some (.ref y), some (.ref o), some (.int (iI i)), l5, l6, l7, l8] [] (dkW (mdW h y M) x W, n, w, g)) := by
  obtain ⟨t1, e1, b1⟩ := iI_ex (xs ((i : Int) + 1).toNat)
  have A : Alk 0 [(eIA, 1)] x y g W M (fun H => aE 399 68 [.ref x, .int (iI t1)] H) (fun H => aE 400 236 [.ref y, .int (iI t1)] H) := c_tickOfBar (d := 387) (e := 391) (x := x) (y := y) (g := g) hR b1
  obtain ⟨h2, W', M', n1, w1, n', w', k, v, fo, hW, hD, hI2, ho, hR2, ht, hB, hk⟩ := wr_ok (w := w) (Wr := fun H => aE 400 22 [.ref x, .int (iI t1), .ref o] H) (P := fun _ => True) A hI hn tyT0 (by decide) (fun h' n' w' fo v hv hC ho => w_22 (d := 399) dk_0 hC ho) (fun E k hk h' n' w' hC => by
      simp only [List.mem_cons, Prod.mk.injEq, List.not_mem_nil, or_false] at hk
      obtain ⟨rfl, rfl⟩ := hk
      exact w_22_1 (d := 399) dk_0 hC)
  replace hW : aE 400 22 [.ref x, .int (iI t1), .ref o] (dkW (mdW h y M) x W, n, w, g) = some (.inl (some (.int (iI k))), (mdW (dkW h2 x W') y M, n1, w1, g)) := hW
  replace hD : aE 400 236 [.ref y, .int (iI t1)] (mdW (dkW h2 x W') y M, n1, w1, g) = some (.inl (some (.int v)), (mdW (dkW h2 x W') y M', n', w', g)) := hD
  have hth : aE 400 182 [.ref y] (mdW (dkW h2 x W') y M', n', w', g) = some (.inl (some (.int (iI k))), (mdW (dkW h2 x W') y M', n', w', g)) := by rw [r_thrown (d := 399), ht]
  have hb := lw_b (W := W) (M := M) hI
  have hb2 := lw_b2 (W := W') (M := M) hI2
  have ho2 := lw_oo (W := W') (M := M') hI2 ho
  refine ⟨h2, W', M', n', w', some (.int (iI k)), some (.int v), l7, l8, ?_, hI2, hR2, hB⟩
  rw [dm_comm (h := h2) hI2.2.2.2.2.2.1]
  rcases hk with ⟨rfl, hf, -⟩ | ⟨k1, k2⟩
  · simp (disch := omega) only [r0_1748, r0_1749, r0_1750, r0_1752, r0_1753, r0_1754, r0_1755, r0_1756, r0_1759, r0_1761, r0_1762, r0_1763, r0_1765, r0_1766, r0_1767, r0_1768, r0_1771, r0_1773, r0_1774, r0_1777, r0_1779, r0_1782, r0_1783, r0_1784, r0_1786, r0_1789, r0_1790, r0_1791, r0_1792, r0_1794, r0_1795, r0_1796, r0_1799, r0_1800, r0_1801, gI_F, iI_add, e1, hW, hD, hth, hb, hb2, md_0, c0_, kl_n, kl_i, kl_r, kl_z, kl_l, kl_d, catS_0, catS_c, cat_i, cat_l, cat_d, cat_r, cat_n, kC_r, kC_x, Option.bind_some, Option.toList_some, Option.toList_none, List.cons_append, List.nil_append, gB0, gB1, gB2, gB3, gB4, rvB, nI_iI, i0, i1, l0_, wr_s, aup_s, and_true, true_and, and_self, eq_self, if_true, if_false, Nat.zero_le, Nat.reduceAdd, Nat.reduceLeDiff, gN_I, gN_L, gN_P, bI_0, bI_ok, z0, z1, Bool.true_eq, Bool.false_eq_true, not_true_eq_false, not_false_eq_true, ho2, gL_1, hf, lc_eq]
  · simp (disch := omega) only [r0_1748, r0_1749, r0_1750, r0_1752, r0_1753, r0_1754, r0_1755, r0_1756, r0_1759, r0_1761, r0_1762, r0_1763, r0_1765, r0_1766, r0_1767, r0_1768, r0_1771, r0_1773, r0_1774, r0_1777, r0_1779, r0_1782, r0_1783, r0_1784, r0_1786, r0_1789, r0_1790, r0_1791, r0_1792, r0_1794, r0_1795, r0_1796, r0_1799, r0_1800, r0_1801, gI_F, iI_add, e1, hW, hD, hth, hb, hb2, md_0, c0_, kl_n, kl_i, kl_r, kl_z, kl_l, kl_d, catS_0, catS_c, cat_i, cat_l, cat_d, cat_r, cat_n, kC_r, kC_x, Option.bind_some, Option.toList_some, Option.toList_none, List.cons_append, List.nil_append, gB0, gB1, gB2, gB3, gB4, rvB, nI_iI, i0, i1, l0_, wr_s, aup_s, and_true, true_and, and_self, eq_self, if_true, if_false, Nat.zero_le, Nat.reduceAdd, Nat.reduceLeDiff, gN_I, gN_L, gN_P, bI_0, bI_ok, z0, z1, Bool.true_eq, Bool.false_eq_true, not_true_eq_false, not_false_eq_true, iI_nz k1 k2]

theorem lc_25 (hI : lwI h b K xs x y o g) (hR : Rel W M) (hn : o < n) (hi : i + 7 ≤ K) (hK : K ≤ 3584) : lwE b K xs x y o g i n w W (L 400 0 1804 [some (.ref b), some (.ref x), some (.ref y), some (.ref o), some (.int (iI i)), l5, l6, l7, l8] [] (dkW (mdW h y M) x W, n, w, g)) := by
  obtain ⟨t1, e1, b1⟩ := iI_ex (xs ((i : Int) + 1).toNat)
  have A : Alk 0 [(eIA, 1)] x y g W M (fun H => aE 399 69 [.ref x, .int (iI t1)] H) (fun H => aE 400 242 [.ref y, .int (iI t1)] H) := c_chordAt (d := 387) (e := 391) (x := x) (y := y) (g := g) hR b1
  obtain ⟨h2, W', M', n1, w1, n', w', k, v, fo, hW, hD, hI2, ho, hR2, ht, hB, hk⟩ := wr_ok (w := w) (Wr := fun H => aE 400 23 [.ref x, .int (iI t1), .ref o] H) (P := fun _ => True) A hI hn tyT0 (by decide) (fun h' n' w' fo v hv hC ho => w_23 (d := 399) dk_0 hC ho) (fun E k hk h' n' w' hC => by
      simp only [List.mem_cons, Prod.mk.injEq, List.not_mem_nil, or_false] at hk
      obtain ⟨rfl, rfl⟩ := hk
      exact w_23_1 (d := 399) dk_0 hC)
  replace hW : aE 400 23 [.ref x, .int (iI t1), .ref o] (dkW (mdW h y M) x W, n, w, g) = some (.inl (some (.int (iI k))), (mdW (dkW h2 x W') y M, n1, w1, g)) := hW
  replace hD : aE 400 242 [.ref y, .int (iI t1)] (mdW (dkW h2 x W') y M, n1, w1, g) = some (.inl (some (.int v)), (mdW (dkW h2 x W') y M', n', w', g)) := hD
  have hth : aE 400 182 [.ref y] (mdW (dkW h2 x W') y M', n', w', g) = some (.inl (some (.int (iI k))), (mdW (dkW h2 x W') y M', n', w', g)) := by rw [r_thrown (d := 399), ht]
  have hb := lw_b (W := W) (M := M) hI
  have hb2 := lw_b2 (W := W') (M := M) hI2
  have ho2 := lw_oo (W := W') (M := M') hI2 ho
  refine ⟨h2, W', M', n', w', some (.int (iI k)), some (.int v), l7, l8, ?_, hI2, hR2, hB⟩
  rw [dm_comm (h := h2) hI2.2.2.2.2.2.1]
  rcases hk with ⟨rfl, hf, -⟩ | ⟨k1, k2⟩
  · simp (disch := omega) only [r0_1804, r0_1805, r0_1806, r0_1808, r0_1809, r0_1810, r0_1811, r0_1812, r0_1815, r0_1817, r0_1818, r0_1819, r0_1821, r0_1822, r0_1823, r0_1824, r0_1827, r0_1829, r0_1830, r0_1833, r0_1835, r0_1838, r0_1839, r0_1840, r0_1842, r0_1845, r0_1846, r0_1847, r0_1848, r0_1850, r0_1851, r0_1852, r0_1855, r0_1856, r0_1857, gI_F, iI_add, e1, hW, hD, hth, hb, hb2, md_0, c0_, kl_n, kl_i, kl_r, kl_z, kl_l, kl_d, catS_0, catS_c, cat_i, cat_l, cat_d, cat_r, cat_n, kC_r, kC_x, Option.bind_some, Option.toList_some, Option.toList_none, List.cons_append, List.nil_append, gB0, gB1, gB2, gB3, gB4, rvB, nI_iI, i0, i1, l0_, wr_s, aup_s, and_true, true_and, and_self, eq_self, if_true, if_false, Nat.zero_le, Nat.reduceAdd, Nat.reduceLeDiff, gN_I, gN_L, gN_P, bI_0, bI_ok, z0, z1, Bool.true_eq, Bool.false_eq_true, not_true_eq_false, not_false_eq_true, ho2, gL_1, hf, lc_eq]
  · simp (disch := omega) only [r0_1804, r0_1805, r0_1806, r0_1808, r0_1809, r0_1810, r0_1811, r0_1812, r0_1815, r0_1817, r0_1818, r0_1819, r0_1821, r0_1822, r0_1823, r0_1824, r0_1827, r0_1829, r0_1830, r0_1833, r0_1835, r0_1838, r0_1839, r0_1840, r0_1842, r0_1845, r0_1846, r0_1847, r0_1848, r0_1850, r0_1851, r0_1852, r0_1855, r0_1856, r0_1857, gI_F, iI_add, e1, hW, hD, hth, hb, hb2, md_0, c0_, kl_n, kl_i, kl_r, kl_z, kl_l, kl_d, catS_0, catS_c, cat_i, cat_l, cat_d, cat_r, cat_n, kC_r, kC_x, Option.bind_some, Option.toList_some, Option.toList_none, List.cons_append, List.nil_append, gB0, gB1, gB2, gB3, gB4, rvB, nI_iI, i0, i1, l0_, wr_s, aup_s, and_true, true_and, and_self, eq_self, if_true, if_false, Nat.zero_le, Nat.reduceAdd, Nat.reduceLeDiff, gN_I, gN_L, gN_P, bI_0, bI_ok, z0, z1, Bool.true_eq, Bool.false_eq_true, not_true_eq_false, not_false_eq_true, iI_nz k1 k2]

theorem lc_26 (hI : lwI h b K xs x y o g) (hR : Rel W M) (hn : o < n) (hi : i + 7 ≤ K) (hK : K ≤ 3584) : lwE b K xs x y o g i n w W (L 400 0 1860 [some (.ref b), some (.ref x), some (.ref y), some (.ref o), some (.int (iI i)), l5, l6, l7, l8] [] (dkW (mdW h y M) x W, n, w, g)) := by
  have A : Alk 0 [] x y g W M (fun H => aE 400 70 [.ref x] H) (fun H => aE 400 244 [.ref y] H) := c_clashes (d := 388) (e := 391) (x := x) (y := y) (g := g) hR
  obtain ⟨W', M', n', w', v, hv, hC, hD, hR2, hB⟩ := dr_ok (w := w) A hI hn
  obtain ⟨v, rfl⟩ := hv
  replace hC : aE 400 70 [.ref x] (dkW (mdW h y M) x W, n, w, g) = some (.inl (some (.int v)), (mdW (dkW h x W') y M, n, w, g)) := hC
  replace hD : aE 400 244 [.ref y] (mdW (dkW h x W') y M, n, w, g) = some (.inl (some (.int v)), (mdW (dkW h x W') y M', n', w', g)) := hD
  refine ⟨h, W', M', n', w', l5, l6, l7, l8, ?_, hI, hR2, hB⟩
  rw [dm_comm (h := h) (M := M') hI.2.2.2.2.2.1]
  simp (disch := omega) only [r0_1860, r0_1861, r0_1864, r0_1865, r0_1868, r0_1871, r0_1872, hC, hD, md_0, dk_0, kl_n, kl_i, kl_r, kl_z, kl_l, kl_d, catS_0, catS_c, cat_i, cat_l, cat_d, cat_r, cat_n, kC_r, kC_x, Option.bind_some, Option.toList_some, Option.toList_none, List.cons_append, List.nil_append, gB0, gB1, gB2, gB3, gB4, rvB, nI_iI, i0, i1, l0_, wr_s, aup_s, and_true, true_and, and_self, eq_self, if_true, if_false, Nat.zero_le, Nat.reduceAdd, Nat.reduceLeDiff, gN_I, gN_L, gN_P, bI_0, bI_ok, z0, z1, Bool.true_eq, Bool.false_eq_true, not_true_eq_false, not_false_eq_true]

theorem lc_27 (hI : lwI h b K xs x y o g) (hR : Rel W M) (hn : o < n) (hi : i + 7 ≤ K) (hK : K ≤ 3584) : lwE b K xs x y o g i n w W (L 400 0 1873 [some (.ref b), some (.ref x), some (.ref y), some (.ref o), some (.int (iI i)), l5, l6, l7, l8] [] (dkW (mdW h y M) x W, n, w, g)) := by
  have A : Alk 0 [] x y g W M (fun H => aE 400 71 [.ref x] H) (fun H => aE 400 245 [.ref y] H) := c_events (d := 388) (e := 391) (x := x) (y := y) (g := g) (by omega) hR
  obtain ⟨W', M', n', w', v, hv, hC, hD, hR2, hB⟩ := dr_ok (w := w) A hI hn
  obtain ⟨v, rfl⟩ := hv
  replace hC : aE 400 71 [.ref x] (dkW (mdW h y M) x W, n, w, g) = some (.inl (some (.int v)), (mdW (dkW h x W') y M, n, w, g)) := hC
  replace hD : aE 400 245 [.ref y] (mdW (dkW h x W') y M, n, w, g) = some (.inl (some (.int v)), (mdW (dkW h x W') y M', n', w', g)) := hD
  refine ⟨h, W', M', n', w', l5, l6, l7, l8, ?_, hI, hR2, hB⟩
  rw [dm_comm (h := h) (M := M') hI.2.2.2.2.2.1]
  simp (disch := omega) only [r0_1873, r0_1874, r0_1877, r0_1878, r0_1881, r0_1884, r0_1885, hC, hD, md_0, dk_0, kl_n, kl_i, kl_r, kl_z, kl_l, kl_d, catS_0, catS_c, cat_i, cat_l, cat_d, cat_r, cat_n, kC_r, kC_x, Option.bind_some, Option.toList_some, Option.toList_none, List.cons_append, List.nil_append, gB0, gB1, gB2, gB3, gB4, rvB, nI_iI, i0, i1, l0_, wr_s, aup_s, and_true, true_and, and_self, eq_self, if_true, if_false, Nat.zero_le, Nat.reduceAdd, Nat.reduceLeDiff, gN_I, gN_L, gN_P, bI_0, bI_ok, z0, z1, Bool.true_eq, Bool.false_eq_true, not_true_eq_false, not_false_eq_true]

end
