/-! ===== regions apart; wrappers ===== -/
theorem rg_comm {h : aHf} {b n b' n' : Nat} {C C' : Nat → aC} (hb : b + n ≤ b' ∨ b' + n' ≤ b) : rgW (rgW h b' n' C') b n C = rgW (rgW h b n C) b' n' C' := by
  funext q
  unfold rgW
  by_cases e : b ≤ q ∧ q < b + n
  · rw [if_pos e, if_neg (by omega), if_pos e]
  · rw [if_neg e]
    by_cases e2 : b' ≤ q ∧ q < b' + n'
    · rw [if_pos e2, if_pos e2]
    · rw [if_neg e2, if_neg e2, if_neg e]
theorem rg_aupo {h : aHf} {b n q : Nat} {C : Nat → aC} {v : aC} (hb : q < b ∨ b + n ≤ q) : aup (rgW h b n C) q v = rgW (aup h q v) b n C := by
  funext z
  unfold aup rgW
  by_cases e : z = q
  · rw [if_pos e, if_neg (by omega)]
    exact (if_pos e).symm
  · rw [if_neg e]
    by_cases e2 : b ≤ z ∧ z < b + n
    · rw [if_pos e2, if_pos e2]
    · rw [if_neg e2, if_neg e2]
      exact (if_neg e).symm
theorem sL_1 {fo : Nat → Int64} {v : Int64} : sL (some (aL 1 fo)) (iI 0) v = some (aL 1 (vp_updL fo 0 v)) := rfl
section
variable {d n w : Nat} {g : Nat × Nat} {h : aHf} {H : aH} {x : Nat} {fs : List Value}
theorem bk_1_1 {l0 l1 l2 l3 l4 l5 l6 l7 : Option Value} {st : List Value} : aK d 1 (aBack 1 11 [l0, l1, l2, l3, l4, l5, l6, l7] st (some (.inr eIA, H))) = L d 1 21 [l0, l1, l2, l3, l4, l5, klL l6, none] [] H := by
  have e1 : hnd (mOc 1) 11 eIA (mHH 1) = some (some 19) := by decide +kernel
  have e2 : mDec 1 19 = some (.astore 7, 2) := by decide +kernel
  unfold aBack
  dsimp only
  rw [e1]
  dsimp only
  rw [e2]
  rfl
theorem bk_1_2 {l0 l1 l2 l3 l4 l5 l6 l7 : Option Value} {st : List Value} : aK d 1 (aBack 1 11 [l0, l1, l2, l3, l4, l5, l6, l7] st (some (.inr eIS, H))) = L d 1 25 [l0, l1, l2, l3, l4, l5, klL l6, none] [] H := by
  have e1 : hnd (mOc 1) 11 eIS (mHH 1) = some (some 23) := by decide +kernel
  have e2 : mDec 1 23 = some (.astore 7, 2) := by decide +kernel
  unfold aBack
  dsimp only
  rw [e1]
  dsimp only
  rw [e2]
  rfl
theorem w_1 {o n' w' : Nat} {h' : aHf} {g' : Nat × Nat} {fo : Nat → Int64} {x2 x3 x4 x5 x6 : Int32} {v : Int32} (hx : h x = some (aB 9 fs)) (hC : aE d 38 [.ref x, .int x2, .int x3, .int x4, .int x5, .int x6] (h, n, w, g) = some (.inl (some (.int v)), (h', n', w', g'))) (ho : h' o = some (aL 1 fo)) : aE (d + 1) 1 [.ref x, .int x2, .int x3, .int x4, .int x5, .int x6, .ref o] (h, n, w, g) = some (.inl (some (.int (iI 0))), (aup h' o (aL 1 (vp_updL fo 0 v.toInt64)), n', w', g')) := by
  rw [e1]
  simp (disch := omega) only [r1_0, r1_2, r1_3, r1_4, r1_5, r1_6, r1_7, r1_9, r1_11, r1_14, r1_15, r1_16, r1_19, r1_21, r1_22, r1_23, r1_25, r1_26, r1_27, r1_28, hx, hC, ho, sL_1, kl_n, kl_i, kl_r, kl_z, kl_l, kl_d, catS_0, catS_c, cat_i, cat_l, cat_d, cat_r, cat_n, kC_r, kC_x, Option.bind_some, Option.toList_some, Option.toList_none, List.cons_append, List.nil_append, gB0, gB1, gB2, gB3, gB4, rvB, nI_iI, i0, i1, l0_, wr_s, aup_s, and_true, true_and, and_self, eq_self, if_true, if_false, Nat.zero_le, Nat.reduceAdd, Nat.reduceLeDiff, gN_I, gN_L, gN_P, bI_0, bI_ok, z0, z1, Bool.true_eq, Bool.false_eq_true, not_true_eq_false, not_false_eq_true]
theorem w_1_1 {o n' w' : Nat} {h' : aHf} {g' : Nat × Nat} {x2 x3 x4 x5 x6 : Int32} (hx : h x = some (aB 9 fs)) (hC : aE d 38 [.ref x, .int x2, .int x3, .int x4, .int x5, .int x6] (h, n, w, g) = some (.inr eIA, (h', n', w', g'))) : aE (d + 1) 1 [.ref x, .int x2, .int x3, .int x4, .int x5, .int x6, .ref o] (h, n, w, g) = some (.inl (some (.int (iI 1))), (h', n', w', g')) := by
  rw [e1]
  simp (disch := omega) only [r1_0, r1_2, r1_3, r1_4, r1_5, r1_6, r1_7, r1_9, r1_11, r1_14, r1_15, r1_16, r1_19, r1_21, r1_22, r1_23, r1_25, r1_26, r1_27, r1_28, hx, hC, bk_1_1, kl_n, kl_i, kl_r, kl_z, kl_l, kl_d, catS_0, catS_c, cat_i, cat_l, cat_d, cat_r, cat_n, kC_r, kC_x, Option.bind_some, Option.toList_some, Option.toList_none, List.cons_append, List.nil_append, gB0, gB1, gB2, gB3, gB4, rvB, nI_iI, i0, i1, l0_, wr_s, aup_s, and_true, true_and, and_self, eq_self, if_true, if_false, Nat.zero_le, Nat.reduceAdd, Nat.reduceLeDiff, gN_I, gN_L, gN_P, bI_0, bI_ok, z0, z1, Bool.true_eq, Bool.false_eq_true, not_true_eq_false, not_false_eq_true]
theorem w_1_2 {o n' w' : Nat} {h' : aHf} {g' : Nat × Nat} {x2 x3 x4 x5 x6 : Int32} (hx : h x = some (aB 9 fs)) (hC : aE d 38 [.ref x, .int x2, .int x3, .int x4, .int x5, .int x6] (h, n, w, g) = some (.inr eIS, (h', n', w', g'))) : aE (d + 1) 1 [.ref x, .int x2, .int x3, .int x4, .int x5, .int x6, .ref o] (h, n, w, g) = some (.inl (some (.int (iI 2))), (h', n', w', g')) := by
  rw [e1]
  simp (disch := omega) only [r1_0, r1_2, r1_3, r1_4, r1_5, r1_6, r1_7, r1_9, r1_11, r1_14, r1_15, r1_16, r1_19, r1_21, r1_22, r1_23, r1_25, r1_26, r1_27, r1_28, hx, hC, bk_1_2, kl_n, kl_i, kl_r, kl_z, kl_l, kl_d, catS_0, catS_c, cat_i, cat_l, cat_d, cat_r, cat_n, kC_r, kC_x, Option.bind_some, Option.toList_some, Option.toList_none, List.cons_append, List.nil_append, gB0, gB1, gB2, gB3, gB4, rvB, nI_iI, i0, i1, l0_, wr_s, aup_s, and_true, true_and, and_self, eq_self, if_true, if_false, Nat.zero_le, Nat.reduceAdd, Nat.reduceLeDiff, gN_I, gN_L, gN_P, bI_0, bI_ok, z0, z1, Bool.true_eq, Bool.false_eq_true, not_true_eq_false, not_false_eq_true]
theorem bk_2_1 {l0 l1 l2 l3 : Option Value} {st : List Value} : aK d 2 (aBack 2 4 [l0, l1, l2, l3] st (some (.inr eIO, H))) = L d 2 13 [l0, l1, klL l2, none] [] H := by
  have e1 : hnd (mOc 2) 4 eIO (mHH 2) = some (some 12) := by decide +kernel
  have e2 : mDec 2 12 = some (.astore_n 3, 1) := by decide +kernel
  unfold aBack
  dsimp only
  rw [e1]
  dsimp only
  rw [e2]
  rfl
theorem w_2 {o n' w' : Nat} {h' : aHf} {g' : Nat × Nat} {fo : Nat → Int64} {x2 : Int32} {v : Int32} (hx : h x = some (aB 9 fs)) (hC : aE d 39 [.ref x, .int x2] (h, n, w, g) = some (.inl (some (.int v)), (h', n', w', g'))) (ho : h' o = some (aL 1 fo)) : aE (d + 1) 2 [.ref x, .int x2, .ref o] (h, n, w, g) = some (.inl (some (.int (iI 0))), (aup h' o (aL 1 (vp_updL fo 0 v.toInt64)), n', w', g')) := by
  rw [e2]
  simp (disch := omega) only [r2_0, r2_1, r2_2, r2_3, r2_4, r2_7, r2_8, r2_9, r2_12, r2_13, r2_14, r2_15, r2_16, hx, hC, ho, sL_1, kl_n, kl_i, kl_r, kl_z, kl_l, kl_d, catS_0, catS_c, cat_i, cat_l, cat_d, cat_r, cat_n, kC_r, kC_x, Option.bind_some, Option.toList_some, Option.toList_none, List.cons_append, List.nil_append, gB0, gB1, gB2, gB3, gB4, rvB, nI_iI, i0, i1, l0_, wr_s, aup_s, and_true, true_and, and_self, eq_self, if_true, if_false, Nat.zero_le, Nat.reduceAdd, Nat.reduceLeDiff, gN_I, gN_L, gN_P, bI_0, bI_ok, z0, z1, Bool.true_eq, Bool.false_eq_true, not_true_eq_false, not_false_eq_true]
theorem w_2_1 {o n' w' : Nat} {h' : aHf} {g' : Nat × Nat} {x2 : Int32} (hx : h x = some (aB 9 fs)) (hC : aE d 39 [.ref x, .int x2] (h, n, w, g) = some (.inr eIO, (h', n', w', g'))) : aE (d + 1) 2 [.ref x, .int x2, .ref o] (h, n, w, g) = some (.inl (some (.int (iI 1))), (h', n', w', g')) := by
  rw [e2]
  simp (disch := omega) only [r2_0, r2_1, r2_2, r2_3, r2_4, r2_7, r2_8, r2_9, r2_12, r2_13, r2_14, r2_15, r2_16, hx, hC, bk_2_1, kl_n, kl_i, kl_r, kl_z, kl_l, kl_d, catS_0, catS_c, cat_i, cat_l, cat_d, cat_r, cat_n, kC_r, kC_x, Option.bind_some, Option.toList_some, Option.toList_none, List.cons_append, List.nil_append, gB0, gB1, gB2, gB3, gB4, rvB, nI_iI, i0, i1, l0_, wr_s, aup_s, and_true, true_and, and_self, eq_self, if_true, if_false, Nat.zero_le, Nat.reduceAdd, Nat.reduceLeDiff, gN_I, gN_L, gN_P, bI_0, bI_ok, z0, z1, Bool.true_eq, Bool.false_eq_true, not_true_eq_false, not_false_eq_true]
theorem bk_3_1 {l0 l1 l2 l3 l4 : Option Value} {st : List Value} : aK d 3 (aBack 3 5 [l0, l1, l2, l3, l4] st (some (.inr eIO, H))) = L d 3 15 [l0, l1, l2, klL l3, none] [] H := by
  have e1 : hnd (mOc 3) 5 eIO (mHH 3) = some (some 13) := by decide +kernel
  have e2 : mDec 3 13 = some (.astore 4, 2) := by decide +kernel
  unfold aBack
  dsimp only
  rw [e1]
  dsimp only
  rw [e2]
  rfl
theorem bk_3_2 {l0 l1 l2 l3 l4 : Option Value} {st : List Value} : aK d 3 (aBack 3 5 [l0, l1, l2, l3, l4] st (some (.inr eIA, H))) = L d 3 19 [l0, l1, l2, klL l3, none] [] H := by
  have e1 : hnd (mOc 3) 5 eIA (mHH 3) = some (some 17) := by decide +kernel
  have e2 : mDec 3 17 = some (.astore 4, 2) := by decide +kernel
  unfold aBack
  dsimp only
  rw [e1]
  dsimp only
  rw [e2]
  rfl
theorem bk_3_3 {l0 l1 l2 l3 l4 : Option Value} {st : List Value} : aK d 3 (aBack 3 5 [l0, l1, l2, l3, l4] st (some (.inr eIS, H))) = L d 3 23 [l0, l1, l2, klL l3, none] [] H := by
  have e1 : hnd (mOc 3) 5 eIS (mHH 3) = some (some 21) := by decide +kernel
  have e2 : mDec 3 21 = some (.astore 4, 2) := by decide +kernel
  unfold aBack
  dsimp only
  rw [e1]
  dsimp only
  rw [e2]
  rfl
theorem w_3 {o n' w' : Nat} {h' : aHf} {g' : Nat × Nat} {fo : Nat → Int64} {x2 x3 : Int32} {v : Int32} (hx : h x = some (aB 9 fs)) (hC : aE d 40 [.ref x, .int x2, .int x3] (h, n, w, g) = some (.inl (some (.int v)), (h', n', w', g'))) (ho : h' o = some (aL 1 fo)) : aE (d + 1) 3 [.ref x, .int x2, .int x3, .ref o] (h, n, w, g) = some (.inl (some (.int (iI 0))), (aup h' o (aL 1 (vp_updL fo 0 v.toInt64)), n', w', g')) := by
  rw [e3]
  simp (disch := omega) only [r3_0, r3_1, r3_2, r3_3, r3_4, r3_5, r3_8, r3_9, r3_10, r3_13, r3_15, r3_16, r3_17, r3_19, r3_20, r3_21, r3_23, r3_24, r3_25, r3_26, hx, hC, ho, sL_1, kl_n, kl_i, kl_r, kl_z, kl_l, kl_d, catS_0, catS_c, cat_i, cat_l, cat_d, cat_r, cat_n, kC_r, kC_x, Option.bind_some, Option.toList_some, Option.toList_none, List.cons_append, List.nil_append, gB0, gB1, gB2, gB3, gB4, rvB, nI_iI, i0, i1, l0_, wr_s, aup_s, and_true, true_and, and_self, eq_self, if_true, if_false, Nat.zero_le, Nat.reduceAdd, Nat.reduceLeDiff, gN_I, gN_L, gN_P, bI_0, bI_ok, z0, z1, Bool.true_eq, Bool.false_eq_true, not_true_eq_false, not_false_eq_true]
theorem w_3_1 {o n' w' : Nat} {h' : aHf} {g' : Nat × Nat} {x2 x3 : Int32} (hx : h x = some (aB 9 fs)) (hC : aE d 40 [.ref x, .int x2, .int x3] (h, n, w, g) = some (.inr eIO, (h', n', w', g'))) : aE (d + 1) 3 [.ref x, .int x2, .int x3, .ref o] (h, n, w, g) = some (.inl (some (.int (iI 1))), (h', n', w', g')) := by
  rw [e3]
  simp (disch := omega) only [r3_0, r3_1, r3_2, r3_3, r3_4, r3_5, r3_8, r3_9, r3_10, r3_13, r3_15, r3_16, r3_17, r3_19, r3_20, r3_21, r3_23, r3_24, r3_25, r3_26, hx, hC, bk_3_1, kl_n, kl_i, kl_r, kl_z, kl_l, kl_d, catS_0, catS_c, cat_i, cat_l, cat_d, cat_r, cat_n, kC_r, kC_x, Option.bind_some, Option.toList_some, Option.toList_none, List.cons_append, List.nil_append, gB0, gB1, gB2, gB3, gB4, rvB, nI_iI, i0, i1, l0_, wr_s, aup_s, and_true, true_and, and_self, eq_self, if_true, if_false, Nat.zero_le, Nat.reduceAdd, Nat.reduceLeDiff, gN_I, gN_L, gN_P, bI_0, bI_ok, z0, z1, Bool.true_eq, Bool.false_eq_true, not_true_eq_false, not_false_eq_true]
theorem w_3_2 {o n' w' : Nat} {h' : aHf} {g' : Nat × Nat} {x2 x3 : Int32} (hx : h x = some (aB 9 fs)) (hC : aE d 40 [.ref x, .int x2, .int x3] (h, n, w, g) = some (.inr eIA, (h', n', w', g'))) : aE (d + 1) 3 [.ref x, .int x2, .int x3, .ref o] (h, n, w, g) = some (.inl (some (.int (iI 2))), (h', n', w', g')) := by
  rw [e3]
  simp (disch := omega) only [r3_0, r3_1, r3_2, r3_3, r3_4, r3_5, r3_8, r3_9, r3_10, r3_13, r3_15, r3_16, r3_17, r3_19, r3_20, r3_21, r3_23, r3_24, r3_25, r3_26, hx, hC, bk_3_2, kl_n, kl_i, kl_r, kl_z, kl_l, kl_d, catS_0, catS_c, cat_i, cat_l, cat_d, cat_r, cat_n, kC_r, kC_x, Option.bind_some, Option.toList_some, Option.toList_none, List.cons_append, List.nil_append, gB0, gB1, gB2, gB3, gB4, rvB, nI_iI, i0, i1, l0_, wr_s, aup_s, and_true, true_and, and_self, eq_self, if_true, if_false, Nat.zero_le, Nat.reduceAdd, Nat.reduceLeDiff, gN_I, gN_L, gN_P, bI_0, bI_ok, z0, z1, Bool.true_eq, Bool.false_eq_true, not_true_eq_false, not_false_eq_true]
theorem w_3_3 {o n' w' : Nat} {h' : aHf} {g' : Nat × Nat} {x2 x3 : Int32} (hx : h x = some (aB 9 fs)) (hC : aE d 40 [.ref x, .int x2, .int x3] (h, n, w, g) = some (.inr eIS, (h', n', w', g'))) : aE (d + 1) 3 [.ref x, .int x2, .int x3, .ref o] (h, n, w, g) = some (.inl (some (.int (iI 3))), (h', n', w', g')) := by
  rw [e3]
  simp (disch := omega) only [r3_0, r3_1, r3_2, r3_3, r3_4, r3_5, r3_8, r3_9, r3_10, r3_13, r3_15, r3_16, r3_17, r3_19, r3_20, r3_21, r3_23, r3_24, r3_25, r3_26, hx, hC, bk_3_3, kl_n, kl_i, kl_r, kl_z, kl_l, kl_d, catS_0, catS_c, cat_i, cat_l, cat_d, cat_r, cat_n, kC_r, kC_x, Option.bind_some, Option.toList_some, Option.toList_none, List.cons_append, List.nil_append, gB0, gB1, gB2, gB3, gB4, rvB, nI_iI, i0, i1, l0_, wr_s, aup_s, and_true, true_and, and_self, eq_self, if_true, if_false, Nat.zero_le, Nat.reduceAdd, Nat.reduceLeDiff, gN_I, gN_L, gN_P, bI_0, bI_ok, z0, z1, Bool.true_eq, Bool.false_eq_true, not_true_eq_false, not_false_eq_true]
theorem bk_4_1 {l0 l1 l2 l3 l4 l5 l6 : Option Value} {st : List Value} : aK d 4 (aBack 4 9 [l0, l1, l2, l3, l4, l5, l6] st (some (.inr eIA, H))) = L d 4 19 [l0, l1, l2, l3, l4, klL l5, none] [] H := by
  have e1 : hnd (mOc 4) 9 eIA (mHH 4) = some (some 17) := by decide +kernel
  have e2 : mDec 4 17 = some (.astore 6, 2) := by decide +kernel
  unfold aBack
  dsimp only
  rw [e1]
  dsimp only
  rw [e2]
  rfl
theorem bk_4_2 {l0 l1 l2 l3 l4 l5 l6 : Option Value} {st : List Value} : aK d 4 (aBack 4 9 [l0, l1, l2, l3, l4, l5, l6] st (some (.inr eIS, H))) = L d 4 23 [l0, l1, l2, l3, l4, klL l5, none] [] H := by
  have e1 : hnd (mOc 4) 9 eIS (mHH 4) = some (some 21) := by decide +kernel
  have e2 : mDec 4 21 = some (.astore 6, 2) := by decide +kernel
  unfold aBack
  dsimp only
  rw [e1]
  dsimp only
  rw [e2]
  rfl
theorem w_4 {o n' w' : Nat} {h' : aHf} {g' : Nat × Nat} {fo : Nat → Int64} {x2 x3 x4 x5 : Int32} {v : Int32} (hx : h x = some (aB 9 fs)) (hC : aE d 44 [.ref x, .int x2, .int x3, .int x4, .int x5] (h, n, w, g) = some (.inl (some (.int v)), (h', n', w', g'))) (ho : h' o = some (aL 1 fo)) : aE (d + 1) 4 [.ref x, .int x2, .int x3, .int x4, .int x5, .ref o] (h, n, w, g) = some (.inl (some (.int (iI 0))), (aup h' o (aL 1 (vp_updL fo 0 v.toInt64)), n', w', g')) := by
  rw [e4]
  simp (disch := omega) only [r4_0, r4_2, r4_3, r4_4, r4_5, r4_6, r4_7, r4_9, r4_12, r4_13, r4_14, r4_17, r4_19, r4_20, r4_21, r4_23, r4_24, r4_25, r4_26, hx, hC, ho, sL_1, kl_n, kl_i, kl_r, kl_z, kl_l, kl_d, catS_0, catS_c, cat_i, cat_l, cat_d, cat_r, cat_n, kC_r, kC_x, Option.bind_some, Option.toList_some, Option.toList_none, List.cons_append, List.nil_append, gB0, gB1, gB2, gB3, gB4, rvB, nI_iI, i0, i1, l0_, wr_s, aup_s, and_true, true_and, and_self, eq_self, if_true, if_false, Nat.zero_le, Nat.reduceAdd, Nat.reduceLeDiff, gN_I, gN_L, gN_P, bI_0, bI_ok, z0, z1, Bool.true_eq, Bool.false_eq_true, not_true_eq_false, not_false_eq_true]
theorem w_4_1 {o n' w' : Nat} {h' : aHf} {g' : Nat × Nat} {x2 x3 x4 x5 : Int32} (hx : h x = some (aB 9 fs)) (hC : aE d 44 [.ref x, .int x2, .int x3, .int x4, .int x5] (h, n, w, g) = some (.inr eIA, (h', n', w', g'))) : aE (d + 1) 4 [.ref x, .int x2, .int x3, .int x4, .int x5, .ref o] (h, n, w, g) = some (.inl (some (.int (iI 1))), (h', n', w', g')) := by
  rw [e4]
  simp (disch := omega) only [r4_0, r4_2, r4_3, r4_4, r4_5, r4_6, r4_7, r4_9, r4_12, r4_13, r4_14, r4_17, r4_19, r4_20, r4_21, r4_23, r4_24, r4_25, r4_26, hx, hC, bk_4_1, kl_n, kl_i, kl_r, kl_z, kl_l, kl_d, catS_0, catS_c, cat_i, cat_l, cat_d, cat_r, cat_n, kC_r, kC_x, Option.bind_some, Option.toList_some, Option.toList_none, List.cons_append, List.nil_append, gB0, gB1, gB2, gB3, gB4, rvB, nI_iI, i0, i1, l0_, wr_s, aup_s, and_true, true_and, and_self, eq_self, if_true, if_false, Nat.zero_le, Nat.reduceAdd, Nat.reduceLeDiff, gN_I, gN_L, gN_P, bI_0, bI_ok, z0, z1, Bool.true_eq, Bool.false_eq_true, not_true_eq_false, not_false_eq_true]
theorem w_4_2 {o n' w' : Nat} {h' : aHf} {g' : Nat × Nat} {x2 x3 x4 x5 : Int32} (hx : h x = some (aB 9 fs)) (hC : aE d 44 [.ref x, .int x2, .int x3, .int x4, .int x5] (h, n, w, g) = some (.inr eIS, (h', n', w', g'))) : aE (d + 1) 4 [.ref x, .int x2, .int x3, .int x4, .int x5, .ref o] (h, n, w, g) = some (.inl (some (.int (iI 2))), (h', n', w', g')) := by
  rw [e4]
  simp (disch := omega) only [r4_0, r4_2, r4_3, r4_4, r4_5, r4_6, r4_7, r4_9, r4_12, r4_13, r4_14, r4_17, r4_19, r4_20, r4_21, r4_23, r4_24, r4_25, r4_26, hx, hC, bk_4_2, kl_n, kl_i, kl_r, kl_z, kl_l, kl_d, catS_0, catS_c, cat_i, cat_l, cat_d, cat_r, cat_n, kC_r, kC_x, Option.bind_some, Option.toList_some, Option.toList_none, List.cons_append, List.nil_append, gB0, gB1, gB2, gB3, gB4, rvB, nI_iI, i0, i1, l0_, wr_s, aup_s, and_true, true_and, and_self, eq_self, if_true, if_false, Nat.zero_le, Nat.reduceAdd, Nat.reduceLeDiff, gN_I, gN_L, gN_P, bI_0, bI_ok, z0, z1, Bool.true_eq, Bool.false_eq_true, not_true_eq_false, not_false_eq_true]
theorem bk_5_1 {l0 l1 l2 l3 l4 l5 l6 : Option Value} {st : List Value} : aK d 5 (aBack 5 9 [l0, l1, l2, l3, l4, l5, l6] st (some (.inr eIA, H))) = L d 5 19 [l0, l1, l2, l3, l4, klL l5, none] [] H := by
  have e1 : hnd (mOc 5) 9 eIA (mHH 5) = some (some 17) := by decide +kernel
  have e2 : mDec 5 17 = some (.astore 6, 2) := by decide +kernel
  unfold aBack
  dsimp only
  rw [e1]
  dsimp only
  rw [e2]
  rfl
theorem w_5 {o n' w' : Nat} {h' : aHf} {g' : Nat × Nat} {fo : Nat → Int64} {x2 x3 x4 x5 : Int32} {v : Int32} (hx : h x = some (aB 9 fs)) (hC : aE d 45 [.ref x, .int x2, .int x3, .int x4, .int x5] (h, n, w, g) = some (.inl (some (.int v)), (h', n', w', g'))) (ho : h' o = some (aL 1 fo)) : aE (d + 1) 5 [.ref x, .int x2, .int x3, .int x4, .int x5, .ref o] (h, n, w, g) = some (.inl (some (.int (iI 0))), (aup h' o (aL 1 (vp_updL fo 0 v.toInt64)), n', w', g')) := by
  rw [e5]
  simp (disch := omega) only [r5_0, r5_2, r5_3, r5_4, r5_5, r5_6, r5_7, r5_9, r5_12, r5_13, r5_14, r5_17, r5_19, r5_20, r5_21, r5_22, hx, hC, ho, sL_1, kl_n, kl_i, kl_r, kl_z, kl_l, kl_d, catS_0, catS_c, cat_i, cat_l, cat_d, cat_r, cat_n, kC_r, kC_x, Option.bind_some, Option.toList_some, Option.toList_none, List.cons_append, List.nil_append, gB0, gB1, gB2, gB3, gB4, rvB, nI_iI, i0, i1, l0_, wr_s, aup_s, and_true, true_and, and_self, eq_self, if_true, if_false, Nat.zero_le, Nat.reduceAdd, Nat.reduceLeDiff, gN_I, gN_L, gN_P, bI_0, bI_ok, z0, z1, Bool.true_eq, Bool.false_eq_true, not_true_eq_false, not_false_eq_true]
theorem w_5_1 {o n' w' : Nat} {h' : aHf} {g' : Nat × Nat} {x2 x3 x4 x5 : Int32} (hx : h x = some (aB 9 fs)) (hC : aE d 45 [.ref x, .int x2, .int x3, .int x4, .int x5] (h, n, w, g) = some (.inr eIA, (h', n', w', g'))) : aE (d + 1) 5 [.ref x, .int x2, .int x3, .int x4, .int x5, .ref o] (h, n, w, g) = some (.inl (some (.int (iI 1))), (h', n', w', g')) := by
  rw [e5]
  simp (disch := omega) only [r5_0, r5_2, r5_3, r5_4, r5_5, r5_6, r5_7, r5_9, r5_12, r5_13, r5_14, r5_17, r5_19, r5_20, r5_21, r5_22, hx, hC, bk_5_1, kl_n, kl_i, kl_r, kl_z, kl_l, kl_d, catS_0, catS_c, cat_i, cat_l, cat_d, cat_r, cat_n, kC_r, kC_x, Option.bind_some, Option.toList_some, Option.toList_none, List.cons_append, List.nil_append, gB0, gB1, gB2, gB3, gB4, rvB, nI_iI, i0, i1, l0_, wr_s, aup_s, and_true, true_and, and_self, eq_self, if_true, if_false, Nat.zero_le, Nat.reduceAdd, Nat.reduceLeDiff, gN_I, gN_L, gN_P, bI_0, bI_ok, z0, z1, Bool.true_eq, Bool.false_eq_true, not_true_eq_false, not_false_eq_true]
theorem bk_6_1 {l0 l1 l2 l3 l4 l5 l6 l7 l8 : Option Value} {st : List Value} : aK d 6 (aBack 6 13 [l0, l1, l2, l3, l4, l5, l6, l7, l8] st (some (.inr eIA, H))) = L d 6 23 [l0, l1, l2, l3, l4, l5, l6, klL l7, none] [] H := by
  have e1 : hnd (mOc 6) 13 eIA (mHH 6) = some (some 21) := by decide +kernel
  have e2 : mDec 6 21 = some (.astore 8, 2) := by decide +kernel
  unfold aBack
  dsimp only
  rw [e1]
  dsimp only
  rw [e2]
  rfl
theorem w_6 {o n' w' : Nat} {h' : aHf} {g' : Nat × Nat} {fo : Nat → Int64} {x2 x3 x4 x5 x6 x7 : Int32} {v : Int32} (hx : h x = some (aB 9 fs)) (hC : aE d 48 [.ref x, .int x2, .int x3, .int x4, .int x5, .int x6, .int x7] (h, n, w, g) = some (.inl (some (.int v)), (h', n', w', g'))) (ho : h' o = some (aL 1 fo)) : aE (d + 1) 6 [.ref x, .int x2, .int x3, .int x4, .int x5, .int x6, .int x7, .ref o] (h, n, w, g) = some (.inl (some (.int (iI 0))), (aup h' o (aL 1 (vp_updL fo 0 v.toInt64)), n', w', g')) := by
  rw [e6]
  simp (disch := omega) only [r6_0, r6_2, r6_3, r6_4, r6_5, r6_6, r6_7, r6_9, r6_11, r6_13, r6_16, r6_17, r6_18, r6_21, r6_23, r6_24, r6_25, r6_26, hx, hC, ho, sL_1, kl_n, kl_i, kl_r, kl_z, kl_l, kl_d, catS_0, catS_c, cat_i, cat_l, cat_d, cat_r, cat_n, kC_r, kC_x, Option.bind_some, Option.toList_some, Option.toList_none, List.cons_append, List.nil_append, gB0, gB1, gB2, gB3, gB4, rvB, nI_iI, i0, i1, l0_, wr_s, aup_s, and_true, true_and, and_self, eq_self, if_true, if_false, Nat.zero_le, Nat.reduceAdd, Nat.reduceLeDiff, gN_I, gN_L, gN_P, bI_0, bI_ok, z0, z1, Bool.true_eq, Bool.false_eq_true, not_true_eq_false, not_false_eq_true]
theorem w_6_1 {o n' w' : Nat} {h' : aHf} {g' : Nat × Nat} {x2 x3 x4 x5 x6 x7 : Int32} (hx : h x = some (aB 9 fs)) (hC : aE d 48 [.ref x, .int x2, .int x3, .int x4, .int x5, .int x6, .int x7] (h, n, w, g) = some (.inr eIA, (h', n', w', g'))) : aE (d + 1) 6 [.ref x, .int x2, .int x3, .int x4, .int x5, .int x6, .int x7, .ref o] (h, n, w, g) = some (.inl (some (.int (iI 1))), (h', n', w', g')) := by
  rw [e6]
  simp (disch := omega) only [r6_0, r6_2, r6_3, r6_4, r6_5, r6_6, r6_7, r6_9, r6_11, r6_13, r6_16, r6_17, r6_18, r6_21, r6_23, r6_24, r6_25, r6_26, hx, hC, bk_6_1, kl_n, kl_i, kl_r, kl_z, kl_l, kl_d, catS_0, catS_c, cat_i, cat_l, cat_d, cat_r, cat_n, kC_r, kC_x, Option.bind_some, Option.toList_some, Option.toList_none, List.cons_append, List.nil_append, gB0, gB1, gB2, gB3, gB4, rvB, nI_iI, i0, i1, l0_, wr_s, aup_s, and_true, true_and, and_self, eq_self, if_true, if_false, Nat.zero_le, Nat.reduceAdd, Nat.reduceLeDiff, gN_I, gN_L, gN_P, bI_0, bI_ok, z0, z1, Bool.true_eq, Bool.false_eq_true, not_true_eq_false, not_false_eq_true]
theorem bk_7_1 {l0 l1 l2 l3 l4 l5 : Option Value} {st : List Value} : aK d 7 (aBack 7 7 [l0, l1, l2, l3, l4, l5] st (some (.inr eIA, H))) = L d 7 17 [l0, l1, l2, l3, klL l4, none] [] H := by
  have e1 : hnd (mOc 7) 7 eIA (mHH 7) = some (some 15) := by decide +kernel
  have e2 : mDec 7 15 = some (.astore 5, 2) := by decide +kernel
  unfold aBack
  dsimp only
  rw [e1]
  dsimp only
  rw [e2]
  rfl
theorem w_7 {o n' w' : Nat} {h' : aHf} {g' : Nat × Nat} {fo : Nat → Int64} {x2 x3 x4 : Int32} {v : Int32} (hx : h x = some (aB 9 fs)) (hC : aE d 49 [.ref x, .int x2, .int x3, .int x4] (h, n, w, g) = some (.inl (some (.int v)), (h', n', w', g'))) (ho : h' o = some (aL 1 fo)) : aE (d + 1) 7 [.ref x, .int x2, .int x3, .int x4, .ref o] (h, n, w, g) = some (.inl (some (.int (iI 0))), (aup h' o (aL 1 (vp_updL fo 0 v.toInt64)), n', w', g')) := by
  rw [e7]
  simp (disch := omega) only [r7_0, r7_2, r7_3, r7_4, r7_5, r7_6, r7_7, r7_10, r7_11, r7_12, r7_15, r7_17, r7_18, r7_19, r7_20, hx, hC, ho, sL_1, kl_n, kl_i, kl_r, kl_z, kl_l, kl_d, catS_0, catS_c, cat_i, cat_l, cat_d, cat_r, cat_n, kC_r, kC_x, Option.bind_some, Option.toList_some, Option.toList_none, List.cons_append, List.nil_append, gB0, gB1, gB2, gB3, gB4, rvB, nI_iI, i0, i1, l0_, wr_s, aup_s, and_true, true_and, and_self, eq_self, if_true, if_false, Nat.zero_le, Nat.reduceAdd, Nat.reduceLeDiff, gN_I, gN_L, gN_P, bI_0, bI_ok, z0, z1, Bool.true_eq, Bool.false_eq_true, not_true_eq_false, not_false_eq_true]
theorem w_7_1 {o n' w' : Nat} {h' : aHf} {g' : Nat × Nat} {x2 x3 x4 : Int32} (hx : h x = some (aB 9 fs)) (hC : aE d 49 [.ref x, .int x2, .int x3, .int x4] (h, n, w, g) = some (.inr eIA, (h', n', w', g'))) : aE (d + 1) 7 [.ref x, .int x2, .int x3, .int x4, .ref o] (h, n, w, g) = some (.inl (some (.int (iI 1))), (h', n', w', g')) := by
  rw [e7]
  simp (disch := omega) only [r7_0, r7_2, r7_3, r7_4, r7_5, r7_6, r7_7, r7_10, r7_11, r7_12, r7_15, r7_17, r7_18, r7_19, r7_20, hx, hC, bk_7_1, kl_n, kl_i, kl_r, kl_z, kl_l, kl_d, catS_0, catS_c, cat_i, cat_l, cat_d, cat_r, cat_n, kC_r, kC_x, Option.bind_some, Option.toList_some, Option.toList_none, List.cons_append, List.nil_append, gB0, gB1, gB2, gB3, gB4, rvB, nI_iI, i0, i1, l0_, wr_s, aup_s, and_true, true_and, and_self, eq_self, if_true, if_false, Nat.zero_le, Nat.reduceAdd, Nat.reduceLeDiff, gN_I, gN_L, gN_P, bI_0, bI_ok, z0, z1, Bool.true_eq, Bool.false_eq_true, not_true_eq_false, not_false_eq_true]
theorem bk_8_1 {l0 l1 l2 l3 : Option Value} {st : List Value} : aK d 8 (aBack 8 4 [l0, l1, l2, l3] st (some (.inr eIA, H))) = L d 8 13 [l0, l1, klL l2, none] [] H := by
  have e1 : hnd (mOc 8) 4 eIA (mHH 8) = some (some 12) := by decide +kernel
  have e2 : mDec 8 12 = some (.astore_n 3, 1) := by decide +kernel
  unfold aBack
  dsimp only
  rw [e1]
  dsimp only
  rw [e2]
  rfl
theorem bk_8_2 {l0 l1 l2 l3 : Option Value} {st : List Value} : aK d 8 (aBack 8 4 [l0, l1, l2, l3] st (some (.inr eIS, H))) = L d 8 16 [l0, l1, klL l2, none] [] H := by
  have e1 : hnd (mOc 8) 4 eIS (mHH 8) = some (some 15) := by decide +kernel
  have e2 : mDec 8 15 = some (.astore_n 3, 1) := by decide +kernel
  unfold aBack
  dsimp only
  rw [e1]
  dsimp only
  rw [e2]
  rfl
theorem w_8 {o n' w' : Nat} {h' : aHf} {g' : Nat × Nat} {fo : Nat → Int64} {x2 : Int32} {v : Int32} (hx : h x = some (aB 9 fs)) (hC : aE d 50 [.ref x, .int x2] (h, n, w, g) = some (.inl (some (.int v)), (h', n', w', g'))) (ho : h' o = some (aL 1 fo)) : aE (d + 1) 8 [.ref x, .int x2, .ref o] (h, n, w, g) = some (.inl (some (.int (iI 0))), (aup h' o (aL 1 (vp_updL fo 0 v.toInt64)), n', w', g')) := by
  rw [e8]
  simp (disch := omega) only [r8_0, r8_1, r8_2, r8_3, r8_4, r8_7, r8_8, r8_9, r8_12, r8_13, r8_14, r8_15, r8_16, r8_17, r8_18, r8_19, hx, hC, ho, sL_1, kl_n, kl_i, kl_r, kl_z, kl_l, kl_d, catS_0, catS_c, cat_i, cat_l, cat_d, cat_r, cat_n, kC_r, kC_x, Option.bind_some, Option.toList_some, Option.toList_none, List.cons_append, List.nil_append, gB0, gB1, gB2, gB3, gB4, rvB, nI_iI, i0, i1, l0_, wr_s, aup_s, and_true, true_and, and_self, eq_self, if_true, if_false, Nat.zero_le, Nat.reduceAdd, Nat.reduceLeDiff, gN_I, gN_L, gN_P, bI_0, bI_ok, z0, z1, Bool.true_eq, Bool.false_eq_true, not_true_eq_false, not_false_eq_true]
theorem w_8_1 {o n' w' : Nat} {h' : aHf} {g' : Nat × Nat} {x2 : Int32} (hx : h x = some (aB 9 fs)) (hC : aE d 50 [.ref x, .int x2] (h, n, w, g) = some (.inr eIA, (h', n', w', g'))) : aE (d + 1) 8 [.ref x, .int x2, .ref o] (h, n, w, g) = some (.inl (some (.int (iI 1))), (h', n', w', g')) := by
  rw [e8]
  simp (disch := omega) only [r8_0, r8_1, r8_2, r8_3, r8_4, r8_7, r8_8, r8_9, r8_12, r8_13, r8_14, r8_15, r8_16, r8_17, r8_18, r8_19, hx, hC, bk_8_1, kl_n, kl_i, kl_r, kl_z, kl_l, kl_d, catS_0, catS_c, cat_i, cat_l, cat_d, cat_r, cat_n, kC_r, kC_x, Option.bind_some, Option.toList_some, Option.toList_none, List.cons_append, List.nil_append, gB0, gB1, gB2, gB3, gB4, rvB, nI_iI, i0, i1, l0_, wr_s, aup_s, and_true, true_and, and_self, eq_self, if_true, if_false, Nat.zero_le, Nat.reduceAdd, Nat.reduceLeDiff, gN_I, gN_L, gN_P, bI_0, bI_ok, z0, z1, Bool.true_eq, Bool.false_eq_true, not_true_eq_false, not_false_eq_true]
theorem w_8_2 {o n' w' : Nat} {h' : aHf} {g' : Nat × Nat} {x2 : Int32} (hx : h x = some (aB 9 fs)) (hC : aE d 50 [.ref x, .int x2] (h, n, w, g) = some (.inr eIS, (h', n', w', g'))) : aE (d + 1) 8 [.ref x, .int x2, .ref o] (h, n, w, g) = some (.inl (some (.int (iI 2))), (h', n', w', g')) := by
  rw [e8]
  simp (disch := omega) only [r8_0, r8_1, r8_2, r8_3, r8_4, r8_7, r8_8, r8_9, r8_12, r8_13, r8_14, r8_15, r8_16, r8_17, r8_18, r8_19, hx, hC, bk_8_2, kl_n, kl_i, kl_r, kl_z, kl_l, kl_d, catS_0, catS_c, cat_i, cat_l, cat_d, cat_r, cat_n, kC_r, kC_x, Option.bind_some, Option.toList_some, Option.toList_none, List.cons_append, List.nil_append, gB0, gB1, gB2, gB3, gB4, rvB, nI_iI, i0, i1, l0_, wr_s, aup_s, and_true, true_and, and_self, eq_self, if_true, if_false, Nat.zero_le, Nat.reduceAdd, Nat.reduceLeDiff, gN_I, gN_L, gN_P, bI_0, bI_ok, z0, z1, Bool.true_eq, Bool.false_eq_true, not_true_eq_false, not_false_eq_true]
theorem bk_9_1 {l0 l1 l2 l3 l4 : Option Value} {st : List Value} : aK d 9 (aBack 9 5 [l0, l1, l2, l3, l4] st (some (.inr eIO, H))) = L d 9 15 [l0, l1, l2, klL l3, none] [] H := by
  have e1 : hnd (mOc 9) 5 eIO (mHH 9) = some (some 13) := by decide +kernel
  have e2 : mDec 9 13 = some (.astore 4, 2) := by decide +kernel
  unfold aBack
  dsimp only
  rw [e1]
  dsimp only
  rw [e2]
  rfl
theorem bk_9_2 {l0 l1 l2 l3 l4 : Option Value} {st : List Value} : aK d 9 (aBack 9 5 [l0, l1, l2, l3, l4] st (some (.inr eIA, H))) = L d 9 19 [l0, l1, l2, klL l3, none] [] H := by
  have e1 : hnd (mOc 9) 5 eIA (mHH 9) = some (some 17) := by decide +kernel
  have e2 : mDec 9 17 = some (.astore 4, 2) := by decide +kernel
  unfold aBack
  dsimp only
  rw [e1]
  dsimp only
  rw [e2]
  rfl
theorem w_9 {o n' w' : Nat} {h' : aHf} {g' : Nat × Nat} {fo : Nat → Int64} {x2 x3 : Int32} {v : Int32} (hx : h x = some (aB 9 fs)) (hC : aE d 52 [.ref x, .int x2, .int x3] (h, n, w, g) = some (.inl (some (.int v)), (h', n', w', g'))) (ho : h' o = some (aL 1 fo)) : aE (d + 1) 9 [.ref x, .int x2, .int x3, .ref o] (h, n, w, g) = some (.inl (some (.int (iI 0))), (aup h' o (aL 1 (vp_updL fo 0 v.toInt64)), n', w', g')) := by
  rw [e9]
  simp (disch := omega) only [r9_0, r9_1, r9_2, r9_3, r9_4, r9_5, r9_8, r9_9, r9_10, r9_13, r9_15, r9_16, r9_17, r9_19, r9_20, r9_21, r9_22, hx, hC, ho, sL_1, kl_n, kl_i, kl_r, kl_z, kl_l, kl_d, catS_0, catS_c, cat_i, cat_l, cat_d, cat_r, cat_n, kC_r, kC_x, Option.bind_some, Option.toList_some, Option.toList_none, List.cons_append, List.nil_append, gB0, gB1, gB2, gB3, gB4, rvB, nI_iI, i0, i1, l0_, wr_s, aup_s, and_true, true_and, and_self, eq_self, if_true, if_false, Nat.zero_le, Nat.reduceAdd, Nat.reduceLeDiff, gN_I, gN_L, gN_P, bI_0, bI_ok, z0, z1, Bool.true_eq, Bool.false_eq_true, not_true_eq_false, not_false_eq_true]
theorem w_9_1 {o n' w' : Nat} {h' : aHf} {g' : Nat × Nat} {x2 x3 : Int32} (hx : h x = some (aB 9 fs)) (hC : aE d 52 [.ref x, .int x2, .int x3] (h, n, w, g) = some (.inr eIO, (h', n', w', g'))) : aE (d + 1) 9 [.ref x, .int x2, .int x3, .ref o] (h, n, w, g) = some (.inl (some (.int (iI 1))), (h', n', w', g')) := by
  rw [e9]
  simp (disch := omega) only [r9_0, r9_1, r9_2, r9_3, r9_4, r9_5, r9_8, r9_9, r9_10, r9_13, r9_15, r9_16, r9_17, r9_19, r9_20, r9_21, r9_22, hx, hC, bk_9_1, kl_n, kl_i, kl_r, kl_z, kl_l, kl_d, catS_0, catS_c, cat_i, cat_l, cat_d, cat_r, cat_n, kC_r, kC_x, Option.bind_some, Option.toList_some, Option.toList_none, List.cons_append, List.nil_append, gB0, gB1, gB2, gB3, gB4, rvB, nI_iI, i0, i1, l0_, wr_s, aup_s, and_true, true_and, and_self, eq_self, if_true, if_false, Nat.zero_le, Nat.reduceAdd, Nat.reduceLeDiff, gN_I, gN_L, gN_P, bI_0, bI_ok, z0, z1, Bool.true_eq, Bool.false_eq_true, not_true_eq_false, not_false_eq_true]
theorem w_9_2 {o n' w' : Nat} {h' : aHf} {g' : Nat × Nat} {x2 x3 : Int32} (hx : h x = some (aB 9 fs)) (hC : aE d 52 [.ref x, .int x2, .int x3] (h, n, w, g) = some (.inr eIA, (h', n', w', g'))) : aE (d + 1) 9 [.ref x, .int x2, .int x3, .ref o] (h, n, w, g) = some (.inl (some (.int (iI 2))), (h', n', w', g')) := by
  rw [e9]
  simp (disch := omega) only [r9_0, r9_1, r9_2, r9_3, r9_4, r9_5, r9_8, r9_9, r9_10, r9_13, r9_15, r9_16, r9_17, r9_19, r9_20, r9_21, r9_22, hx, hC, bk_9_2, kl_n, kl_i, kl_r, kl_z, kl_l, kl_d, catS_0, catS_c, cat_i, cat_l, cat_d, cat_r, cat_n, kC_r, kC_x, Option.bind_some, Option.toList_some, Option.toList_none, List.cons_append, List.nil_append, gB0, gB1, gB2, gB3, gB4, rvB, nI_iI, i0, i1, l0_, wr_s, aup_s, and_true, true_and, and_self, eq_self, if_true, if_false, Nat.zero_le, Nat.reduceAdd, Nat.reduceLeDiff, gN_I, gN_L, gN_P, bI_0, bI_ok, z0, z1, Bool.true_eq, Bool.false_eq_true, not_true_eq_false, not_false_eq_true]
theorem bk_10_1 {l0 l1 l2 l3 l4 l5 l6 l7 : Option Value} {st : List Value} : aK d 10 (aBack 10 11 [l0, l1, l2, l3, l4, l5, l6, l7] st (some (.inr eIO, H))) = L d 10 21 [l0, l1, l2, l3, l4, l5, klL l6, none] [] H := by
  have e1 : hnd (mOc 10) 11 eIO (mHH 10) = some (some 19) := by decide +kernel
  have e2 : mDec 10 19 = some (.astore 7, 2) := by decide +kernel
  unfold aBack
  dsimp only
  rw [e1]
  dsimp only
  rw [e2]
  rfl
theorem bk_10_2 {l0 l1 l2 l3 l4 l5 l6 l7 : Option Value} {st : List Value} : aK d 10 (aBack 10 11 [l0, l1, l2, l3, l4, l5, l6, l7] st (some (.inr eIA, H))) = L d 10 25 [l0, l1, l2, l3, l4, l5, klL l6, none] [] H := by
  have e1 : hnd (mOc 10) 11 eIA (mHH 10) = some (some 23) := by decide +kernel
  have e2 : mDec 10 23 = some (.astore 7, 2) := by decide +kernel
  unfold aBack
  dsimp only
  rw [e1]
  dsimp only
  rw [e2]
  rfl
theorem w_10 {o n' w' : Nat} {h' : aHf} {g' : Nat × Nat} {fo : Nat → Int64} {x2 x3 x4 x5 x6 : Int32} {v : Int32} (hx : h x = some (aB 9 fs)) (hC : aE d 53 [.ref x, .int x2, .int x3, .int x4, .int x5, .int x6] (h, n, w, g) = some (.inl (some (.int v)), (h', n', w', g'))) (ho : h' o = some (aL 1 fo)) : aE (d + 1) 10 [.ref x, .int x2, .int x3, .int x4, .int x5, .int x6, .ref o] (h, n, w, g) = some (.inl (some (.int (iI 0))), (aup h' o (aL 1 (vp_updL fo 0 v.toInt64)), n', w', g')) := by
  rw [e10]
  simp (disch := omega) only [r10_0, r10_2, r10_3, r10_4, r10_5, r10_6, r10_7, r10_9, r10_11, r10_14, r10_15, r10_16, r10_19, r10_21, r10_22, r10_23, r10_25, r10_26, r10_27, r10_28, hx, hC, ho, sL_1, kl_n, kl_i, kl_r, kl_z, kl_l, kl_d, catS_0, catS_c, cat_i, cat_l, cat_d, cat_r, cat_n, kC_r, kC_x, Option.bind_some, Option.toList_some, Option.toList_none, List.cons_append, List.nil_append, gB0, gB1, gB2, gB3, gB4, rvB, nI_iI, i0, i1, l0_, wr_s, aup_s, and_true, true_and, and_self, eq_self, if_true, if_false, Nat.zero_le, Nat.reduceAdd, Nat.reduceLeDiff, gN_I, gN_L, gN_P, bI_0, bI_ok, z0, z1, Bool.true_eq, Bool.false_eq_true, not_true_eq_false, not_false_eq_true]
theorem w_10_1 {o n' w' : Nat} {h' : aHf} {g' : Nat × Nat} {x2 x3 x4 x5 x6 : Int32} (hx : h x = some (aB 9 fs)) (hC : aE d 53 [.ref x, .int x2, .int x3, .int x4, .int x5, .int x6] (h, n, w, g) = some (.inr eIO, (h', n', w', g'))) : aE (d + 1) 10 [.ref x, .int x2, .int x3, .int x4, .int x5, .int x6, .ref o] (h, n, w, g) = some (.inl (some (.int (iI 1))), (h', n', w', g')) := by
  rw [e10]
  simp (disch := omega) only [r10_0, r10_2, r10_3, r10_4, r10_5, r10_6, r10_7, r10_9, r10_11, r10_14, r10_15, r10_16, r10_19, r10_21, r10_22, r10_23, r10_25, r10_26, r10_27, r10_28, hx, hC, bk_10_1, kl_n, kl_i, kl_r, kl_z, kl_l, kl_d, catS_0, catS_c, cat_i, cat_l, cat_d, cat_r, cat_n, kC_r, kC_x, Option.bind_some, Option.toList_some, Option.toList_none, List.cons_append, List.nil_append, gB0, gB1, gB2, gB3, gB4, rvB, nI_iI, i0, i1, l0_, wr_s, aup_s, and_true, true_and, and_self, eq_self, if_true, if_false, Nat.zero_le, Nat.reduceAdd, Nat.reduceLeDiff, gN_I, gN_L, gN_P, bI_0, bI_ok, z0, z1, Bool.true_eq, Bool.false_eq_true, not_true_eq_false, not_false_eq_true]
theorem w_10_2 {o n' w' : Nat} {h' : aHf} {g' : Nat × Nat} {x2 x3 x4 x5 x6 : Int32} (hx : h x = some (aB 9 fs)) (hC : aE d 53 [.ref x, .int x2, .int x3, .int x4, .int x5, .int x6] (h, n, w, g) = some (.inr eIA, (h', n', w', g'))) : aE (d + 1) 10 [.ref x, .int x2, .int x3, .int x4, .int x5, .int x6, .ref o] (h, n, w, g) = some (.inl (some (.int (iI 2))), (h', n', w', g')) := by
  rw [e10]
  simp (disch := omega) only [r10_0, r10_2, r10_3, r10_4, r10_5, r10_6, r10_7, r10_9, r10_11, r10_14, r10_15, r10_16, r10_19, r10_21, r10_22, r10_23, r10_25, r10_26, r10_27, r10_28, hx, hC, bk_10_2, kl_n, kl_i, kl_r, kl_z, kl_l, kl_d, catS_0, catS_c, cat_i, cat_l, cat_d, cat_r, cat_n, kC_r, kC_x, Option.bind_some, Option.toList_some, Option.toList_none, List.cons_append, List.nil_append, gB0, gB1, gB2, gB3, gB4, rvB, nI_iI, i0, i1, l0_, wr_s, aup_s, and_true, true_and, and_self, eq_self, if_true, if_false, Nat.zero_le, Nat.reduceAdd, Nat.reduceLeDiff, gN_I, gN_L, gN_P, bI_0, bI_ok, z0, z1, Bool.true_eq, Bool.false_eq_true, not_true_eq_false, not_false_eq_true]
theorem bk_11_1 {l0 l1 l2 l3 l4 : Option Value} {st : List Value} : aK d 11 (aBack 11 5 [l0, l1, l2, l3, l4] st (some (.inr eIA, H))) = L d 11 15 [l0, l1, l2, klL l3, none] [] H := by
  have e1 : hnd (mOc 11) 5 eIA (mHH 11) = some (some 13) := by decide +kernel
  have e2 : mDec 11 13 = some (.astore 4, 2) := by decide +kernel
  unfold aBack
  dsimp only
  rw [e1]
  dsimp only
  rw [e2]
  rfl
theorem bk_11_2 {l0 l1 l2 l3 l4 : Option Value} {st : List Value} : aK d 11 (aBack 11 5 [l0, l1, l2, l3, l4] st (some (.inr eIS, H))) = L d 11 19 [l0, l1, l2, klL l3, none] [] H := by
  have e1 : hnd (mOc 11) 5 eIS (mHH 11) = some (some 17) := by decide +kernel
  have e2 : mDec 11 17 = some (.astore 4, 2) := by decide +kernel
  unfold aBack
  dsimp only
  rw [e1]
  dsimp only
  rw [e2]
  rfl
theorem w_11 {o n' w' : Nat} {h' : aHf} {g' : Nat × Nat} {fo : Nat → Int64} {x2 x3 : Int32} {v : Int32} (hx : h x = some (aB 9 fs)) (hC : aE d 54 [.ref x, .int x2, .int x3] (h, n, w, g) = some (.inl (some (.int v)), (h', n', w', g'))) (ho : h' o = some (aL 1 fo)) : aE (d + 1) 11 [.ref x, .int x2, .int x3, .ref o] (h, n, w, g) = some (.inl (some (.int (iI 0))), (aup h' o (aL 1 (vp_updL fo 0 v.toInt64)), n', w', g')) := by
  rw [e11]
  simp (disch := omega) only [r11_0, r11_1, r11_2, r11_3, r11_4, r11_5, r11_8, r11_9, r11_10, r11_13, r11_15, r11_16, r11_17, r11_19, r11_20, r11_21, r11_22, hx, hC, ho, sL_1, kl_n, kl_i, kl_r, kl_z, kl_l, kl_d, catS_0, catS_c, cat_i, cat_l, cat_d, cat_r, cat_n, kC_r, kC_x, Option.bind_some, Option.toList_some, Option.toList_none, List.cons_append, List.nil_append, gB0, gB1, gB2, gB3, gB4, rvB, nI_iI, i0, i1, l0_, wr_s, aup_s, and_true, true_and, and_self, eq_self, if_true, if_false, Nat.zero_le, Nat.reduceAdd, Nat.reduceLeDiff, gN_I, gN_L, gN_P, bI_0, bI_ok, z0, z1, Bool.true_eq, Bool.false_eq_true, not_true_eq_false, not_false_eq_true]
theorem w_11_1 {o n' w' : Nat} {h' : aHf} {g' : Nat × Nat} {x2 x3 : Int32} (hx : h x = some (aB 9 fs)) (hC : aE d 54 [.ref x, .int x2, .int x3] (h, n, w, g) = some (.inr eIA, (h', n', w', g'))) : aE (d + 1) 11 [.ref x, .int x2, .int x3, .ref o] (h, n, w, g) = some (.inl (some (.int (iI 1))), (h', n', w', g')) := by
  rw [e11]
  simp (disch := omega) only [r11_0, r11_1, r11_2, r11_3, r11_4, r11_5, r11_8, r11_9, r11_10, r11_13, r11_15, r11_16, r11_17, r11_19, r11_20, r11_21, r11_22, hx, hC, bk_11_1, kl_n, kl_i, kl_r, kl_z, kl_l, kl_d, catS_0, catS_c, cat_i, cat_l, cat_d, cat_r, cat_n, kC_r, kC_x, Option.bind_some, Option.toList_some, Option.toList_none, List.cons_append, List.nil_append, gB0, gB1, gB2, gB3, gB4, rvB, nI_iI, i0, i1, l0_, wr_s, aup_s, and_true, true_and, and_self, eq_self, if_true, if_false, Nat.zero_le, Nat.reduceAdd, Nat.reduceLeDiff, gN_I, gN_L, gN_P, bI_0, bI_ok, z0, z1, Bool.true_eq, Bool.false_eq_true, not_true_eq_false, not_false_eq_true]
theorem w_11_2 {o n' w' : Nat} {h' : aHf} {g' : Nat × Nat} {x2 x3 : Int32} (hx : h x = some (aB 9 fs)) (hC : aE d 54 [.ref x, .int x2, .int x3] (h, n, w, g) = some (.inr eIS, (h', n', w', g'))) : aE (d + 1) 11 [.ref x, .int x2, .int x3, .ref o] (h, n, w, g) = some (.inl (some (.int (iI 2))), (h', n', w', g')) := by
  rw [e11]
  simp (disch := omega) only [r11_0, r11_1, r11_2, r11_3, r11_4, r11_5, r11_8, r11_9, r11_10, r11_13, r11_15, r11_16, r11_17, r11_19, r11_20, r11_21, r11_22, hx, hC, bk_11_2, kl_n, kl_i, kl_r, kl_z, kl_l, kl_d, catS_0, catS_c, cat_i, cat_l, cat_d, cat_r, cat_n, kC_r, kC_x, Option.bind_some, Option.toList_some, Option.toList_none, List.cons_append, List.nil_append, gB0, gB1, gB2, gB3, gB4, rvB, nI_iI, i0, i1, l0_, wr_s, aup_s, and_true, true_and, and_self, eq_self, if_true, if_false, Nat.zero_le, Nat.reduceAdd, Nat.reduceLeDiff, gN_I, gN_L, gN_P, bI_0, bI_ok, z0, z1, Bool.true_eq, Bool.false_eq_true, not_true_eq_false, not_false_eq_true]
theorem bk_12_1 {l0 l1 l2 l3 l4 l5 : Option Value} {st : List Value} : aK d 12 (aBack 12 7 [l0, l1, l2, l3, l4, l5] st (some (.inr eIA, H))) = L d 12 17 [l0, l1, l2, l3, klL l4, none] [] H := by
  have e1 : hnd (mOc 12) 7 eIA (mHH 12) = some (some 15) := by decide +kernel
  have e2 : mDec 12 15 = some (.astore 5, 2) := by decide +kernel
  unfold aBack
  dsimp only
  rw [e1]
  dsimp only
  rw [e2]
  rfl
theorem bk_12_2 {l0 l1 l2 l3 l4 l5 : Option Value} {st : List Value} : aK d 12 (aBack 12 7 [l0, l1, l2, l3, l4, l5] st (some (.inr eIS, H))) = L d 12 21 [l0, l1, l2, l3, klL l4, none] [] H := by
  have e1 : hnd (mOc 12) 7 eIS (mHH 12) = some (some 19) := by decide +kernel
  have e2 : mDec 12 19 = some (.astore 5, 2) := by decide +kernel
  unfold aBack
  dsimp only
  rw [e1]
  dsimp only
  rw [e2]
  rfl
theorem w_12 {o n' w' : Nat} {h' : aHf} {g' : Nat × Nat} {fo : Nat → Int64} {x2 x3 x4 : Int32} {v : Int32} (hx : h x = some (aB 9 fs)) (hC : aE d 55 [.ref x, .int x2, .int x3, .int x4] (h, n, w, g) = some (.inl (some (.int v)), (h', n', w', g'))) (ho : h' o = some (aL 1 fo)) : aE (d + 1) 12 [.ref x, .int x2, .int x3, .int x4, .ref o] (h, n, w, g) = some (.inl (some (.int (iI 0))), (aup h' o (aL 1 (vp_updL fo 0 v.toInt64)), n', w', g')) := by
  rw [e12]
  simp (disch := omega) only [r12_0, r12_2, r12_3, r12_4, r12_5, r12_6, r12_7, r12_10, r12_11, r12_12, r12_15, r12_17, r12_18, r12_19, r12_21, r12_22, r12_23, r12_24, hx, hC, ho, sL_1, kl_n, kl_i, kl_r, kl_z, kl_l, kl_d, catS_0, catS_c, cat_i, cat_l, cat_d, cat_r, cat_n, kC_r, kC_x, Option.bind_some, Option.toList_some, Option.toList_none, List.cons_append, List.nil_append, gB0, gB1, gB2, gB3, gB4, rvB, nI_iI, i0, i1, l0_, wr_s, aup_s, and_true, true_and, and_self, eq_self, if_true, if_false, Nat.zero_le, Nat.reduceAdd, Nat.reduceLeDiff, gN_I, gN_L, gN_P, bI_0, bI_ok, z0, z1, Bool.true_eq, Bool.false_eq_true, not_true_eq_false, not_false_eq_true]
theorem w_12_1 {o n' w' : Nat} {h' : aHf} {g' : Nat × Nat} {x2 x3 x4 : Int32} (hx : h x = some (aB 9 fs)) (hC : aE d 55 [.ref x, .int x2, .int x3, .int x4] (h, n, w, g) = some (.inr eIA, (h', n', w', g'))) : aE (d + 1) 12 [.ref x, .int x2, .int x3, .int x4, .ref o] (h, n, w, g) = some (.inl (some (.int (iI 1))), (h', n', w', g')) := by
  rw [e12]
  simp (disch := omega) only [r12_0, r12_2, r12_3, r12_4, r12_5, r12_6, r12_7, r12_10, r12_11, r12_12, r12_15, r12_17, r12_18, r12_19, r12_21, r12_22, r12_23, r12_24, hx, hC, bk_12_1, kl_n, kl_i, kl_r, kl_z, kl_l, kl_d, catS_0, catS_c, cat_i, cat_l, cat_d, cat_r, cat_n, kC_r, kC_x, Option.bind_some, Option.toList_some, Option.toList_none, List.cons_append, List.nil_append, gB0, gB1, gB2, gB3, gB4, rvB, nI_iI, i0, i1, l0_, wr_s, aup_s, and_true, true_and, and_self, eq_self, if_true, if_false, Nat.zero_le, Nat.reduceAdd, Nat.reduceLeDiff, gN_I, gN_L, gN_P, bI_0, bI_ok, z0, z1, Bool.true_eq, Bool.false_eq_true, not_true_eq_false, not_false_eq_true]
theorem w_12_2 {o n' w' : Nat} {h' : aHf} {g' : Nat × Nat} {x2 x3 x4 : Int32} (hx : h x = some (aB 9 fs)) (hC : aE d 55 [.ref x, .int x2, .int x3, .int x4] (h, n, w, g) = some (.inr eIS, (h', n', w', g'))) : aE (d + 1) 12 [.ref x, .int x2, .int x3, .int x4, .ref o] (h, n, w, g) = some (.inl (some (.int (iI 2))), (h', n', w', g')) := by
  rw [e12]
  simp (disch := omega) only [r12_0, r12_2, r12_3, r12_4, r12_5, r12_6, r12_7, r12_10, r12_11, r12_12, r12_15, r12_17, r12_18, r12_19, r12_21, r12_22, r12_23, r12_24, hx, hC, bk_12_2, kl_n, kl_i, kl_r, kl_z, kl_l, kl_d, catS_0, catS_c, cat_i, cat_l, cat_d, cat_r, cat_n, kC_r, kC_x, Option.bind_some, Option.toList_some, Option.toList_none, List.cons_append, List.nil_append, gB0, gB1, gB2, gB3, gB4, rvB, nI_iI, i0, i1, l0_, wr_s, aup_s, and_true, true_and, and_self, eq_self, if_true, if_false, Nat.zero_le, Nat.reduceAdd, Nat.reduceLeDiff, gN_I, gN_L, gN_P, bI_0, bI_ok, z0, z1, Bool.true_eq, Bool.false_eq_true, not_true_eq_false, not_false_eq_true]
theorem bk_13_1 {l0 l1 l2 l3 l4 l5 : Option Value} {st : List Value} : aK d 13 (aBack 13 7 [l0, l1, l2, l3, l4, l5] st (some (.inr eIA, H))) = L d 13 17 [l0, l1, l2, l3, klL l4, none] [] H := by
  have e1 : hnd (mOc 13) 7 eIA (mHH 13) = some (some 15) := by decide +kernel
  have e2 : mDec 13 15 = some (.astore 5, 2) := by decide +kernel
  unfold aBack
  dsimp only
  rw [e1]
  dsimp only
  rw [e2]
  rfl
theorem w_13 {o n' w' : Nat} {h' : aHf} {g' : Nat × Nat} {fo : Nat → Int64} {x2 x3 x4 : Int32} {v : Int32} (hx : h x = some (aB 9 fs)) (hC : aE d 56 [.ref x, .int x2, .int x3, .int x4] (h, n, w, g) = some (.inl (some (.int v)), (h', n', w', g'))) (ho : h' o = some (aL 1 fo)) : aE (d + 1) 13 [.ref x, .int x2, .int x3, .int x4, .ref o] (h, n, w, g) = some (.inl (some (.int (iI 0))), (aup h' o (aL 1 (vp_updL fo 0 v.toInt64)), n', w', g')) := by
  rw [e13]
  simp (disch := omega) only [r13_0, r13_2, r13_3, r13_4, r13_5, r13_6, r13_7, r13_10, r13_11, r13_12, r13_15, r13_17, r13_18, r13_19, r13_20, hx, hC, ho, sL_1, kl_n, kl_i, kl_r, kl_z, kl_l, kl_d, catS_0, catS_c, cat_i, cat_l, cat_d, cat_r, cat_n, kC_r, kC_x, Option.bind_some, Option.toList_some, Option.toList_none, List.cons_append, List.nil_append, gB0, gB1, gB2, gB3, gB4, rvB, nI_iI, i0, i1, l0_, wr_s, aup_s, and_true, true_and, and_self, eq_self, if_true, if_false, Nat.zero_le, Nat.reduceAdd, Nat.reduceLeDiff, gN_I, gN_L, gN_P, bI_0, bI_ok, z0, z1, Bool.true_eq, Bool.false_eq_true, not_true_eq_false, not_false_eq_true]
theorem w_13_1 {o n' w' : Nat} {h' : aHf} {g' : Nat × Nat} {x2 x3 x4 : Int32} (hx : h x = some (aB 9 fs)) (hC : aE d 56 [.ref x, .int x2, .int x3, .int x4] (h, n, w, g) = some (.inr eIA, (h', n', w', g'))) : aE (d + 1) 13 [.ref x, .int x2, .int x3, .int x4, .ref o] (h, n, w, g) = some (.inl (some (.int (iI 1))), (h', n', w', g')) := by
  rw [e13]
  simp (disch := omega) only [r13_0, r13_2, r13_3, r13_4, r13_5, r13_6, r13_7, r13_10, r13_11, r13_12, r13_15, r13_17, r13_18, r13_19, r13_20, hx, hC, bk_13_1, kl_n, kl_i, kl_r, kl_z, kl_l, kl_d, catS_0, catS_c, cat_i, cat_l, cat_d, cat_r, cat_n, kC_r, kC_x, Option.bind_some, Option.toList_some, Option.toList_none, List.cons_append, List.nil_append, gB0, gB1, gB2, gB3, gB4, rvB, nI_iI, i0, i1, l0_, wr_s, aup_s, and_true, true_and, and_self, eq_self, if_true, if_false, Nat.zero_le, Nat.reduceAdd, Nat.reduceLeDiff, gN_I, gN_L, gN_P, bI_0, bI_ok, z0, z1, Bool.true_eq, Bool.false_eq_true, not_true_eq_false, not_false_eq_true]
theorem bk_14_1 {l0 l1 l2 : Option Value} {st : List Value} : aK d 14 (aBack 14 3 [l0, l1, l2] st (some (.inr eIS, H))) = L d 14 12 [l0, klL l1, none] [] H := by
  have e1 : hnd (mOc 14) 3 eIS (mHH 14) = some (some 11) := by decide +kernel
  have e2 : mDec 14 11 = some (.astore_n 2, 1) := by decide +kernel
  unfold aBack
  dsimp only
  rw [e1]
  dsimp only
  rw [e2]
  rfl
theorem w_14 {o n' w' : Nat} {h' : aHf} {g' : Nat × Nat} {fo : Nat → Int64} {v : Int32} (hx : h x = some (aB 9 fs)) (hC : aE d 57 [.ref x] (h, n, w, g) = some (.inl (some (.int v)), (h', n', w', g'))) (ho : h' o = some (aL 1 fo)) : aE (d + 1) 14 [.ref x, .ref o] (h, n, w, g) = some (.inl (some (.int (iI 0))), (aup h' o (aL 1 (vp_updL fo 0 v.toInt64)), n', w', g')) := by
  rw [e14]
  simp (disch := omega) only [r14_0, r14_1, r14_2, r14_3, r14_6, r14_7, r14_8, r14_11, r14_12, r14_13, r14_14, r14_15, hx, hC, ho, sL_1, kl_n, kl_i, kl_r, kl_z, kl_l, kl_d, catS_0, catS_c, cat_i, cat_l, cat_d, cat_r, cat_n, kC_r, kC_x, Option.bind_some, Option.toList_some, Option.toList_none, List.cons_append, List.nil_append, gB0, gB1, gB2, gB3, gB4, rvB, nI_iI, i0, i1, l0_, wr_s, aup_s, and_true, true_and, and_self, eq_self, if_true, if_false, Nat.zero_le, Nat.reduceAdd, Nat.reduceLeDiff, gN_I, gN_L, gN_P, bI_0, bI_ok, z0, z1, Bool.true_eq, Bool.false_eq_true, not_true_eq_false, not_false_eq_true]
theorem w_14_1 {o n' w' : Nat} {h' : aHf} {g' : Nat × Nat} (hx : h x = some (aB 9 fs)) (hC : aE d 57 [.ref x] (h, n, w, g) = some (.inr eIS, (h', n', w', g'))) : aE (d + 1) 14 [.ref x, .ref o] (h, n, w, g) = some (.inl (some (.int (iI 1))), (h', n', w', g')) := by
  rw [e14]
  simp (disch := omega) only [r14_0, r14_1, r14_2, r14_3, r14_6, r14_7, r14_8, r14_11, r14_12, r14_13, r14_14, r14_15, hx, hC, bk_14_1, kl_n, kl_i, kl_r, kl_z, kl_l, kl_d, catS_0, catS_c, cat_i, cat_l, cat_d, cat_r, cat_n, kC_r, kC_x, Option.bind_some, Option.toList_some, Option.toList_none, List.cons_append, List.nil_append, gB0, gB1, gB2, gB3, gB4, rvB, nI_iI, i0, i1, l0_, wr_s, aup_s, and_true, true_and, and_self, eq_self, if_true, if_false, Nat.zero_le, Nat.reduceAdd, Nat.reduceLeDiff, gN_I, gN_L, gN_P, bI_0, bI_ok, z0, z1, Bool.true_eq, Bool.false_eq_true, not_true_eq_false, not_false_eq_true]
theorem bk_15_1 {l0 l1 l2 : Option Value} {st : List Value} : aK d 15 (aBack 15 3 [l0, l1, l2] st (some (.inr eIS, H))) = L d 15 19 [l0, klL l1, none] [] H := by
  have e1 : hnd (mOc 15) 3 eIS (mHH 15) = some (some 18) := by decide +kernel
  have e2 : mDec 15 18 = some (.astore_n 2, 1) := by decide +kernel
  unfold aBack
  dsimp only
  rw [e1]
  dsimp only
  rw [e2]
  rfl
theorem w_15 {o n' w' : Nat} {h' : aHf} {g' : Nat × Nat} {fo : Nat → Int64} {p : Prop} [Decidable p] (hx : h x = some (aB 9 fs)) (hC : aE d 58 [.ref x] (h, n, w, g) = some (.inl (some (.int (bI p))), (h', n', w', g'))) (ho : h' o = some (aL 1 fo)) : aE (d + 1) 15 [.ref x, .ref o] (h, n, w, g) = some (.inl (some (.int (iI 0))), (aup h' o (aL 1 (vp_updL fo 0 (bI p).toInt64)), n', w', g')) := by
  have k1 : (iI 1).toInt64 = lI 1 := i_l (by omega) (by omega)
  have k0 : (iI 0).toInt64 = lI 0 := i_l (by omega) (by omega)
  rw [e15]
  by_cases q : p
  · rw [show bI p = iI 1 from if_pos q] at hC ⊢
    have i10 : ¬ iI 1 = iI 0 := by decide
    simp (disch := omega) only [r15_0, r15_1, r15_2, r15_3, r15_6, r15_9, r15_10, r15_13, r15_14, r15_15, r15_18, r15_19, r15_20, r15_21, r15_22, hx, hC, ho, sL_1, i10, k1, kl_n, kl_i, kl_r, kl_z, kl_l, kl_d, catS_0, catS_c, cat_i, cat_l, cat_d, cat_r, cat_n, kC_r, kC_x, Option.bind_some, Option.toList_some, Option.toList_none, List.cons_append, List.nil_append, gB0, gB1, gB2, gB3, gB4, rvB, nI_iI, i0, i1, l0_, wr_s, aup_s, and_true, true_and, and_self, eq_self, if_true, if_false, Nat.zero_le, Nat.reduceAdd, Nat.reduceLeDiff, gN_I, gN_L, gN_P, bI_0, bI_ok, z0, z1, Bool.true_eq, Bool.false_eq_true, not_true_eq_false, not_false_eq_true]
  · rw [show bI p = iI 0 from if_neg q] at hC ⊢
    simp (disch := omega) only [r15_0, r15_1, r15_2, r15_3, r15_6, r15_9, r15_10, r15_13, r15_14, r15_15, r15_18, r15_19, r15_20, r15_21, r15_22, hx, hC, ho, sL_1, k0, kl_n, kl_i, kl_r, kl_z, kl_l, kl_d, catS_0, catS_c, cat_i, cat_l, cat_d, cat_r, cat_n, kC_r, kC_x, Option.bind_some, Option.toList_some, Option.toList_none, List.cons_append, List.nil_append, gB0, gB1, gB2, gB3, gB4, rvB, nI_iI, i0, i1, l0_, wr_s, aup_s, and_true, true_and, and_self, eq_self, if_true, if_false, Nat.zero_le, Nat.reduceAdd, Nat.reduceLeDiff, gN_I, gN_L, gN_P, bI_0, bI_ok, z0, z1, Bool.true_eq, Bool.false_eq_true, not_true_eq_false, not_false_eq_true]
theorem w_15_1 {o n' w' : Nat} {h' : aHf} {g' : Nat × Nat} (hx : h x = some (aB 9 fs)) (hC : aE d 58 [.ref x] (h, n, w, g) = some (.inr eIS, (h', n', w', g'))) : aE (d + 1) 15 [.ref x, .ref o] (h, n, w, g) = some (.inl (some (.int (iI 1))), (h', n', w', g')) := by
  rw [e15]
  simp (disch := omega) only [r15_0, r15_1, r15_2, r15_3, r15_6, r15_9, r15_10, r15_13, r15_14, r15_15, r15_18, r15_19, r15_20, r15_21, r15_22, hx, hC, bk_15_1, kl_n, kl_i, kl_r, kl_z, kl_l, kl_d, catS_0, catS_c, cat_i, cat_l, cat_d, cat_r, cat_n, kC_r, kC_x, Option.bind_some, Option.toList_some, Option.toList_none, List.cons_append, List.nil_append, gB0, gB1, gB2, gB3, gB4, rvB, nI_iI, i0, i1, l0_, wr_s, aup_s, and_true, true_and, and_self, eq_self, if_true, if_false, Nat.zero_le, Nat.reduceAdd, Nat.reduceLeDiff, gN_I, gN_L, gN_P, bI_0, bI_ok, z0, z1, Bool.true_eq, Bool.false_eq_true, not_true_eq_false, not_false_eq_true]
theorem bk_16_1 {l0 l1 l2 : Option Value} {st : List Value} : aK d 16 (aBack 16 3 [l0, l1, l2] st (some (.inr eIS, H))) = L d 16 12 [l0, klL l1, none] [] H := by
  have e1 : hnd (mOc 16) 3 eIS (mHH 16) = some (some 11) := by decide +kernel
  have e2 : mDec 16 11 = some (.astore_n 2, 1) := by decide +kernel
  unfold aBack
  dsimp only
  rw [e1]
  dsimp only
  rw [e2]
  rfl
theorem w_16 {o n' w' : Nat} {h' : aHf} {g' : Nat × Nat} {fo : Nat → Int64} {v : Int32} (hx : h x = some (aB 9 fs)) (hC : aE d 59 [.ref x] (h, n, w, g) = some (.inl (some (.int v)), (h', n', w', g'))) (ho : h' o = some (aL 1 fo)) : aE (d + 1) 16 [.ref x, .ref o] (h, n, w, g) = some (.inl (some (.int (iI 0))), (aup h' o (aL 1 (vp_updL fo 0 v.toInt64)), n', w', g')) := by
  rw [e16]
  simp (disch := omega) only [r16_0, r16_1, r16_2, r16_3, r16_6, r16_7, r16_8, r16_11, r16_12, r16_13, r16_14, r16_15, hx, hC, ho, sL_1, kl_n, kl_i, kl_r, kl_z, kl_l, kl_d, catS_0, catS_c, cat_i, cat_l, cat_d, cat_r, cat_n, kC_r, kC_x, Option.bind_some, Option.toList_some, Option.toList_none, List.cons_append, List.nil_append, gB0, gB1, gB2, gB3, gB4, rvB, nI_iI, i0, i1, l0_, wr_s, aup_s, and_true, true_and, and_self, eq_self, if_true, if_false, Nat.zero_le, Nat.reduceAdd, Nat.reduceLeDiff, gN_I, gN_L, gN_P, bI_0, bI_ok, z0, z1, Bool.true_eq, Bool.false_eq_true, not_true_eq_false, not_false_eq_true]
theorem w_16_1 {o n' w' : Nat} {h' : aHf} {g' : Nat × Nat} (hx : h x = some (aB 9 fs)) (hC : aE d 59 [.ref x] (h, n, w, g) = some (.inr eIS, (h', n', w', g'))) : aE (d + 1) 16 [.ref x, .ref o] (h, n, w, g) = some (.inl (some (.int (iI 1))), (h', n', w', g')) := by
  rw [e16]
  simp (disch := omega) only [r16_0, r16_1, r16_2, r16_3, r16_6, r16_7, r16_8, r16_11, r16_12, r16_13, r16_14, r16_15, hx, hC, bk_16_1, kl_n, kl_i, kl_r, kl_z, kl_l, kl_d, catS_0, catS_c, cat_i, cat_l, cat_d, cat_r, cat_n, kC_r, kC_x, Option.bind_some, Option.toList_some, Option.toList_none, List.cons_append, List.nil_append, gB0, gB1, gB2, gB3, gB4, rvB, nI_iI, i0, i1, l0_, wr_s, aup_s, and_true, true_and, and_self, eq_self, if_true, if_false, Nat.zero_le, Nat.reduceAdd, Nat.reduceLeDiff, gN_I, gN_L, gN_P, bI_0, bI_ok, z0, z1, Bool.true_eq, Bool.false_eq_true, not_true_eq_false, not_false_eq_true]
theorem bk_17_1 {l0 l1 l2 : Option Value} {st : List Value} : aK d 17 (aBack 17 3 [l0, l1, l2] st (some (.inr eIS, H))) = L d 17 12 [l0, klL l1, none] [] H := by
  have e1 : hnd (mOc 17) 3 eIS (mHH 17) = some (some 11) := by decide +kernel
  have e2 : mDec 17 11 = some (.astore_n 2, 1) := by decide +kernel
  unfold aBack
  dsimp only
  rw [e1]
  dsimp only
  rw [e2]
  rfl
theorem w_17 {o n' w' : Nat} {h' : aHf} {g' : Nat × Nat} {fo : Nat → Int64} {v : Int32} (hx : h x = some (aB 9 fs)) (hC : aE d 60 [.ref x] (h, n, w, g) = some (.inl (some (.int v)), (h', n', w', g'))) (ho : h' o = some (aL 1 fo)) : aE (d + 1) 17 [.ref x, .ref o] (h, n, w, g) = some (.inl (some (.int (iI 0))), (aup h' o (aL 1 (vp_updL fo 0 v.toInt64)), n', w', g')) := by
  rw [e17]
  simp (disch := omega) only [r17_0, r17_1, r17_2, r17_3, r17_6, r17_7, r17_8, r17_11, r17_12, r17_13, r17_14, r17_15, hx, hC, ho, sL_1, kl_n, kl_i, kl_r, kl_z, kl_l, kl_d, catS_0, catS_c, cat_i, cat_l, cat_d, cat_r, cat_n, kC_r, kC_x, Option.bind_some, Option.toList_some, Option.toList_none, List.cons_append, List.nil_append, gB0, gB1, gB2, gB3, gB4, rvB, nI_iI, i0, i1, l0_, wr_s, aup_s, and_true, true_and, and_self, eq_self, if_true, if_false, Nat.zero_le, Nat.reduceAdd, Nat.reduceLeDiff, gN_I, gN_L, gN_P, bI_0, bI_ok, z0, z1, Bool.true_eq, Bool.false_eq_true, not_true_eq_false, not_false_eq_true]
theorem w_17_1 {o n' w' : Nat} {h' : aHf} {g' : Nat × Nat} (hx : h x = some (aB 9 fs)) (hC : aE d 60 [.ref x] (h, n, w, g) = some (.inr eIS, (h', n', w', g'))) : aE (d + 1) 17 [.ref x, .ref o] (h, n, w, g) = some (.inl (some (.int (iI 1))), (h', n', w', g')) := by
  rw [e17]
  simp (disch := omega) only [r17_0, r17_1, r17_2, r17_3, r17_6, r17_7, r17_8, r17_11, r17_12, r17_13, r17_14, r17_15, hx, hC, bk_17_1, kl_n, kl_i, kl_r, kl_z, kl_l, kl_d, catS_0, catS_c, cat_i, cat_l, cat_d, cat_r, cat_n, kC_r, kC_x, Option.bind_some, Option.toList_some, Option.toList_none, List.cons_append, List.nil_append, gB0, gB1, gB2, gB3, gB4, rvB, nI_iI, i0, i1, l0_, wr_s, aup_s, and_true, true_and, and_self, eq_self, if_true, if_false, Nat.zero_le, Nat.reduceAdd, Nat.reduceLeDiff, gN_I, gN_L, gN_P, bI_0, bI_ok, z0, z1, Bool.true_eq, Bool.false_eq_true, not_true_eq_false, not_false_eq_true]
theorem bk_18_1 {l0 l1 l2 l3 : Option Value} {st : List Value} : aK d 18 (aBack 18 4 [l0, l1, l2, l3] st (some (.inr eIA, H))) = L d 18 13 [l0, l1, klL l2, none] [] H := by
  have e1 : hnd (mOc 18) 4 eIA (mHH 18) = some (some 12) := by decide +kernel
  have e2 : mDec 18 12 = some (.astore_n 3, 1) := by decide +kernel
  unfold aBack
  dsimp only
  rw [e1]
  dsimp only
  rw [e2]
  rfl
theorem w_18 {o n' w' : Nat} {h' : aHf} {g' : Nat × Nat} {fo : Nat → Int64} {x2 : Int32} {v : Int32} (hx : h x = some (aB 9 fs)) (hC : aE d 64 [.ref x, .int x2] (h, n, w, g) = some (.inl (some (.int v)), (h', n', w', g'))) (ho : h' o = some (aL 1 fo)) : aE (d + 1) 18 [.ref x, .int x2, .ref o] (h, n, w, g) = some (.inl (some (.int (iI 0))), (aup h' o (aL 1 (vp_updL fo 0 v.toInt64)), n', w', g')) := by
  rw [e18]
  simp (disch := omega) only [r18_0, r18_1, r18_2, r18_3, r18_4, r18_7, r18_8, r18_9, r18_12, r18_13, r18_14, r18_15, r18_16, hx, hC, ho, sL_1, kl_n, kl_i, kl_r, kl_z, kl_l, kl_d, catS_0, catS_c, cat_i, cat_l, cat_d, cat_r, cat_n, kC_r, kC_x, Option.bind_some, Option.toList_some, Option.toList_none, List.cons_append, List.nil_append, gB0, gB1, gB2, gB3, gB4, rvB, nI_iI, i0, i1, l0_, wr_s, aup_s, and_true, true_and, and_self, eq_self, if_true, if_false, Nat.zero_le, Nat.reduceAdd, Nat.reduceLeDiff, gN_I, gN_L, gN_P, bI_0, bI_ok, z0, z1, Bool.true_eq, Bool.false_eq_true, not_true_eq_false, not_false_eq_true]
theorem w_18_1 {o n' w' : Nat} {h' : aHf} {g' : Nat × Nat} {x2 : Int32} (hx : h x = some (aB 9 fs)) (hC : aE d 64 [.ref x, .int x2] (h, n, w, g) = some (.inr eIA, (h', n', w', g'))) : aE (d + 1) 18 [.ref x, .int x2, .ref o] (h, n, w, g) = some (.inl (some (.int (iI 1))), (h', n', w', g')) := by
  rw [e18]
  simp (disch := omega) only [r18_0, r18_1, r18_2, r18_3, r18_4, r18_7, r18_8, r18_9, r18_12, r18_13, r18_14, r18_15, r18_16, hx, hC, bk_18_1, kl_n, kl_i, kl_r, kl_z, kl_l, kl_d, catS_0, catS_c, cat_i, cat_l, cat_d, cat_r, cat_n, kC_r, kC_x, Option.bind_some, Option.toList_some, Option.toList_none, List.cons_append, List.nil_append, gB0, gB1, gB2, gB3, gB4, rvB, nI_iI, i0, i1, l0_, wr_s, aup_s, and_true, true_and, and_self, eq_self, if_true, if_false, Nat.zero_le, Nat.reduceAdd, Nat.reduceLeDiff, gN_I, gN_L, gN_P, bI_0, bI_ok, z0, z1, Bool.true_eq, Bool.false_eq_true, not_true_eq_false, not_false_eq_true]
theorem bk_19_1 {l0 l1 l2 l3 : Option Value} {st : List Value} : aK d 19 (aBack 19 4 [l0, l1, l2, l3] st (some (.inr eIA, H))) = L d 19 13 [l0, l1, klL l2, none] [] H := by
  have e1 : hnd (mOc 19) 4 eIA (mHH 19) = some (some 12) := by decide +kernel
  have e2 : mDec 19 12 = some (.astore_n 3, 1) := by decide +kernel
  unfold aBack
  dsimp only
  rw [e1]
  dsimp only
  rw [e2]
  rfl
theorem w_19 {o n' w' : Nat} {h' : aHf} {g' : Nat × Nat} {fo : Nat → Int64} {x2 : Int32} {v : Int32} (hx : h x = some (aB 9 fs)) (hC : aE d 65 [.ref x, .int x2] (h, n, w, g) = some (.inl (some (.int v)), (h', n', w', g'))) (ho : h' o = some (aL 1 fo)) : aE (d + 1) 19 [.ref x, .int x2, .ref o] (h, n, w, g) = some (.inl (some (.int (iI 0))), (aup h' o (aL 1 (vp_updL fo 0 v.toInt64)), n', w', g')) := by
  rw [e19]
  simp (disch := omega) only [r19_0, r19_1, r19_2, r19_3, r19_4, r19_7, r19_8, r19_9, r19_12, r19_13, r19_14, r19_15, r19_16, hx, hC, ho, sL_1, kl_n, kl_i, kl_r, kl_z, kl_l, kl_d, catS_0, catS_c, cat_i, cat_l, cat_d, cat_r, cat_n, kC_r, kC_x, Option.bind_some, Option.toList_some, Option.toList_none, List.cons_append, List.nil_append, gB0, gB1, gB2, gB3, gB4, rvB, nI_iI, i0, i1, l0_, wr_s, aup_s, and_true, true_and, and_self, eq_self, if_true, if_false, Nat.zero_le, Nat.reduceAdd, Nat.reduceLeDiff, gN_I, gN_L, gN_P, bI_0, bI_ok, z0, z1, Bool.true_eq, Bool.false_eq_true, not_true_eq_false, not_false_eq_true]
theorem w_19_1 {o n' w' : Nat} {h' : aHf} {g' : Nat × Nat} {x2 : Int32} (hx : h x = some (aB 9 fs)) (hC : aE d 65 [.ref x, .int x2] (h, n, w, g) = some (.inr eIA, (h', n', w', g'))) : aE (d + 1) 19 [.ref x, .int x2, .ref o] (h, n, w, g) = some (.inl (some (.int (iI 1))), (h', n', w', g')) := by
  rw [e19]
  simp (disch := omega) only [r19_0, r19_1, r19_2, r19_3, r19_4, r19_7, r19_8, r19_9, r19_12, r19_13, r19_14, r19_15, r19_16, hx, hC, bk_19_1, kl_n, kl_i, kl_r, kl_z, kl_l, kl_d, catS_0, catS_c, cat_i, cat_l, cat_d, cat_r, cat_n, kC_r, kC_x, Option.bind_some, Option.toList_some, Option.toList_none, List.cons_append, List.nil_append, gB0, gB1, gB2, gB3, gB4, rvB, nI_iI, i0, i1, l0_, wr_s, aup_s, and_true, true_and, and_self, eq_self, if_true, if_false, Nat.zero_le, Nat.reduceAdd, Nat.reduceLeDiff, gN_I, gN_L, gN_P, bI_0, bI_ok, z0, z1, Bool.true_eq, Bool.false_eq_true, not_true_eq_false, not_false_eq_true]
theorem bk_20_1 {l0 l1 l2 l3 : Option Value} {st : List Value} : aK d 20 (aBack 20 4 [l0, l1, l2, l3] st (some (.inr eIA, H))) = L d 20 13 [l0, l1, klL l2, none] [] H := by
  have e1 : hnd (mOc 20) 4 eIA (mHH 20) = some (some 12) := by decide +kernel
  have e2 : mDec 20 12 = some (.astore_n 3, 1) := by decide +kernel
  unfold aBack
  dsimp only
  rw [e1]
  dsimp only
  rw [e2]
  rfl
theorem w_20 {o n' w' : Nat} {h' : aHf} {g' : Nat × Nat} {fo : Nat → Int64} {x2 : Int32} {v : Int32} (hx : h x = some (aB 9 fs)) (hC : aE d 66 [.ref x, .int x2] (h, n, w, g) = some (.inl (some (.int v)), (h', n', w', g'))) (ho : h' o = some (aL 1 fo)) : aE (d + 1) 20 [.ref x, .int x2, .ref o] (h, n, w, g) = some (.inl (some (.int (iI 0))), (aup h' o (aL 1 (vp_updL fo 0 v.toInt64)), n', w', g')) := by
  rw [e20]
  simp (disch := omega) only [r20_0, r20_1, r20_2, r20_3, r20_4, r20_7, r20_8, r20_9, r20_12, r20_13, r20_14, r20_15, r20_16, hx, hC, ho, sL_1, kl_n, kl_i, kl_r, kl_z, kl_l, kl_d, catS_0, catS_c, cat_i, cat_l, cat_d, cat_r, cat_n, kC_r, kC_x, Option.bind_some, Option.toList_some, Option.toList_none, List.cons_append, List.nil_append, gB0, gB1, gB2, gB3, gB4, rvB, nI_iI, i0, i1, l0_, wr_s, aup_s, and_true, true_and, and_self, eq_self, if_true, if_false, Nat.zero_le, Nat.reduceAdd, Nat.reduceLeDiff, gN_I, gN_L, gN_P, bI_0, bI_ok, z0, z1, Bool.true_eq, Bool.false_eq_true, not_true_eq_false, not_false_eq_true]
theorem w_20_1 {o n' w' : Nat} {h' : aHf} {g' : Nat × Nat} {x2 : Int32} (hx : h x = some (aB 9 fs)) (hC : aE d 66 [.ref x, .int x2] (h, n, w, g) = some (.inr eIA, (h', n', w', g'))) : aE (d + 1) 20 [.ref x, .int x2, .ref o] (h, n, w, g) = some (.inl (some (.int (iI 1))), (h', n', w', g')) := by
  rw [e20]
  simp (disch := omega) only [r20_0, r20_1, r20_2, r20_3, r20_4, r20_7, r20_8, r20_9, r20_12, r20_13, r20_14, r20_15, r20_16, hx, hC, bk_20_1, kl_n, kl_i, kl_r, kl_z, kl_l, kl_d, catS_0, catS_c, cat_i, cat_l, cat_d, cat_r, cat_n, kC_r, kC_x, Option.bind_some, Option.toList_some, Option.toList_none, List.cons_append, List.nil_append, gB0, gB1, gB2, gB3, gB4, rvB, nI_iI, i0, i1, l0_, wr_s, aup_s, and_true, true_and, and_self, eq_self, if_true, if_false, Nat.zero_le, Nat.reduceAdd, Nat.reduceLeDiff, gN_I, gN_L, gN_P, bI_0, bI_ok, z0, z1, Bool.true_eq, Bool.false_eq_true, not_true_eq_false, not_false_eq_true]
theorem bk_21_1 {l0 l1 l2 l3 : Option Value} {st : List Value} : aK d 21 (aBack 21 4 [l0, l1, l2, l3] st (some (.inr eIA, H))) = L d 21 13 [l0, l1, klL l2, none] [] H := by
  have e1 : hnd (mOc 21) 4 eIA (mHH 21) = some (some 12) := by decide +kernel
  have e2 : mDec 21 12 = some (.astore_n 3, 1) := by decide +kernel
  unfold aBack
  dsimp only
  rw [e1]
  dsimp only
  rw [e2]
  rfl
theorem w_21 {o n' w' : Nat} {h' : aHf} {g' : Nat × Nat} {fo : Nat → Int64} {x2 : Int32} {v : Int32} (hx : h x = some (aB 9 fs)) (hC : aE d 67 [.ref x, .int x2] (h, n, w, g) = some (.inl (some (.int v)), (h', n', w', g'))) (ho : h' o = some (aL 1 fo)) : aE (d + 1) 21 [.ref x, .int x2, .ref o] (h, n, w, g) = some (.inl (some (.int (iI 0))), (aup h' o (aL 1 (vp_updL fo 0 v.toInt64)), n', w', g')) := by
  rw [e21]
  simp (disch := omega) only [r21_0, r21_1, r21_2, r21_3, r21_4, r21_7, r21_8, r21_9, r21_12, r21_13, r21_14, r21_15, r21_16, hx, hC, ho, sL_1, kl_n, kl_i, kl_r, kl_z, kl_l, kl_d, catS_0, catS_c, cat_i, cat_l, cat_d, cat_r, cat_n, kC_r, kC_x, Option.bind_some, Option.toList_some, Option.toList_none, List.cons_append, List.nil_append, gB0, gB1, gB2, gB3, gB4, rvB, nI_iI, i0, i1, l0_, wr_s, aup_s, and_true, true_and, and_self, eq_self, if_true, if_false, Nat.zero_le, Nat.reduceAdd, Nat.reduceLeDiff, gN_I, gN_L, gN_P, bI_0, bI_ok, z0, z1, Bool.true_eq, Bool.false_eq_true, not_true_eq_false, not_false_eq_true]
theorem w_21_1 {o n' w' : Nat} {h' : aHf} {g' : Nat × Nat} {x2 : Int32} (hx : h x = some (aB 9 fs)) (hC : aE d 67 [.ref x, .int x2] (h, n, w, g) = some (.inr eIA, (h', n', w', g'))) : aE (d + 1) 21 [.ref x, .int x2, .ref o] (h, n, w, g) = some (.inl (some (.int (iI 1))), (h', n', w', g')) := by
  rw [e21]
  simp (disch := omega) only [r21_0, r21_1, r21_2, r21_3, r21_4, r21_7, r21_8, r21_9, r21_12, r21_13, r21_14, r21_15, r21_16, hx, hC, bk_21_1, kl_n, kl_i, kl_r, kl_z, kl_l, kl_d, catS_0, catS_c, cat_i, cat_l, cat_d, cat_r, cat_n, kC_r, kC_x, Option.bind_some, Option.toList_some, Option.toList_none, List.cons_append, List.nil_append, gB0, gB1, gB2, gB3, gB4, rvB, nI_iI, i0, i1, l0_, wr_s, aup_s, and_true, true_and, and_self, eq_self, if_true, if_false, Nat.zero_le, Nat.reduceAdd, Nat.reduceLeDiff, gN_I, gN_L, gN_P, bI_0, bI_ok, z0, z1, Bool.true_eq, Bool.false_eq_true, not_true_eq_false, not_false_eq_true]
theorem bk_22_1 {l0 l1 l2 l3 : Option Value} {st : List Value} : aK d 22 (aBack 22 4 [l0, l1, l2, l3] st (some (.inr eIA, H))) = L d 22 13 [l0, l1, klL l2, none] [] H := by
  have e1 : hnd (mOc 22) 4 eIA (mHH 22) = some (some 12) := by decide +kernel
  have e2 : mDec 22 12 = some (.astore_n 3, 1) := by decide +kernel
  unfold aBack
  dsimp only
  rw [e1]
  dsimp only
  rw [e2]
  rfl
theorem w_22 {o n' w' : Nat} {h' : aHf} {g' : Nat × Nat} {fo : Nat → Int64} {x2 : Int32} {v : Int32} (hx : h x = some (aB 9 fs)) (hC : aE d 68 [.ref x, .int x2] (h, n, w, g) = some (.inl (some (.int v)), (h', n', w', g'))) (ho : h' o = some (aL 1 fo)) : aE (d + 1) 22 [.ref x, .int x2, .ref o] (h, n, w, g) = some (.inl (some (.int (iI 0))), (aup h' o (aL 1 (vp_updL fo 0 v.toInt64)), n', w', g')) := by
  rw [e22]
  simp (disch := omega) only [r22_0, r22_1, r22_2, r22_3, r22_4, r22_7, r22_8, r22_9, r22_12, r22_13, r22_14, r22_15, r22_16, hx, hC, ho, sL_1, kl_n, kl_i, kl_r, kl_z, kl_l, kl_d, catS_0, catS_c, cat_i, cat_l, cat_d, cat_r, cat_n, kC_r, kC_x, Option.bind_some, Option.toList_some, Option.toList_none, List.cons_append, List.nil_append, gB0, gB1, gB2, gB3, gB4, rvB, nI_iI, i0, i1, l0_, wr_s, aup_s, and_true, true_and, and_self, eq_self, if_true, if_false, Nat.zero_le, Nat.reduceAdd, Nat.reduceLeDiff, gN_I, gN_L, gN_P, bI_0, bI_ok, z0, z1, Bool.true_eq, Bool.false_eq_true, not_true_eq_false, not_false_eq_true]
theorem w_22_1 {o n' w' : Nat} {h' : aHf} {g' : Nat × Nat} {x2 : Int32} (hx : h x = some (aB 9 fs)) (hC : aE d 68 [.ref x, .int x2] (h, n, w, g) = some (.inr eIA, (h', n', w', g'))) : aE (d + 1) 22 [.ref x, .int x2, .ref o] (h, n, w, g) = some (.inl (some (.int (iI 1))), (h', n', w', g')) := by
  rw [e22]
  simp (disch := omega) only [r22_0, r22_1, r22_2, r22_3, r22_4, r22_7, r22_8, r22_9, r22_12, r22_13, r22_14, r22_15, r22_16, hx, hC, bk_22_1, kl_n, kl_i, kl_r, kl_z, kl_l, kl_d, catS_0, catS_c, cat_i, cat_l, cat_d, cat_r, cat_n, kC_r, kC_x, Option.bind_some, Option.toList_some, Option.toList_none, List.cons_append, List.nil_append, gB0, gB1, gB2, gB3, gB4, rvB, nI_iI, i0, i1, l0_, wr_s, aup_s, and_true, true_and, and_self, eq_self, if_true, if_false, Nat.zero_le, Nat.reduceAdd, Nat.reduceLeDiff, gN_I, gN_L, gN_P, bI_0, bI_ok, z0, z1, Bool.true_eq, Bool.false_eq_true, not_true_eq_false, not_false_eq_true]
theorem bk_23_1 {l0 l1 l2 l3 : Option Value} {st : List Value} : aK d 23 (aBack 23 4 [l0, l1, l2, l3] st (some (.inr eIA, H))) = L d 23 13 [l0, l1, klL l2, none] [] H := by
  have e1 : hnd (mOc 23) 4 eIA (mHH 23) = some (some 12) := by decide +kernel
  have e2 : mDec 23 12 = some (.astore_n 3, 1) := by decide +kernel
  unfold aBack
  dsimp only
  rw [e1]
  dsimp only
  rw [e2]
  rfl
theorem w_23 {o n' w' : Nat} {h' : aHf} {g' : Nat × Nat} {fo : Nat → Int64} {x2 : Int32} {v : Int32} (hx : h x = some (aB 9 fs)) (hC : aE d 69 [.ref x, .int x2] (h, n, w, g) = some (.inl (some (.int v)), (h', n', w', g'))) (ho : h' o = some (aL 1 fo)) : aE (d + 1) 23 [.ref x, .int x2, .ref o] (h, n, w, g) = some (.inl (some (.int (iI 0))), (aup h' o (aL 1 (vp_updL fo 0 v.toInt64)), n', w', g')) := by
  rw [e23]
  simp (disch := omega) only [r23_0, r23_1, r23_2, r23_3, r23_4, r23_7, r23_8, r23_9, r23_12, r23_13, r23_14, r23_15, r23_16, hx, hC, ho, sL_1, kl_n, kl_i, kl_r, kl_z, kl_l, kl_d, catS_0, catS_c, cat_i, cat_l, cat_d, cat_r, cat_n, kC_r, kC_x, Option.bind_some, Option.toList_some, Option.toList_none, List.cons_append, List.nil_append, gB0, gB1, gB2, gB3, gB4, rvB, nI_iI, i0, i1, l0_, wr_s, aup_s, and_true, true_and, and_self, eq_self, if_true, if_false, Nat.zero_le, Nat.reduceAdd, Nat.reduceLeDiff, gN_I, gN_L, gN_P, bI_0, bI_ok, z0, z1, Bool.true_eq, Bool.false_eq_true, not_true_eq_false, not_false_eq_true]
theorem w_23_1 {o n' w' : Nat} {h' : aHf} {g' : Nat × Nat} {x2 : Int32} (hx : h x = some (aB 9 fs)) (hC : aE d 69 [.ref x, .int x2] (h, n, w, g) = some (.inr eIA, (h', n', w', g'))) : aE (d + 1) 23 [.ref x, .int x2, .ref o] (h, n, w, g) = some (.inl (some (.int (iI 1))), (h', n', w', g')) := by
  rw [e23]
  simp (disch := omega) only [r23_0, r23_1, r23_2, r23_3, r23_4, r23_7, r23_8, r23_9, r23_12, r23_13, r23_14, r23_15, r23_16, hx, hC, bk_23_1, kl_n, kl_i, kl_r, kl_z, kl_l, kl_d, catS_0, catS_c, cat_i, cat_l, cat_d, cat_r, cat_n, kC_r, kC_x, Option.bind_some, Option.toList_some, Option.toList_none, List.cons_append, List.nil_append, gB0, gB1, gB2, gB3, gB4, rvB, nI_iI, i0, i1, l0_, wr_s, aup_s, and_true, true_and, and_self, eq_self, if_true, if_false, Nat.zero_le, Nat.reduceAdd, Nat.reduceLeDiff, gN_I, gN_L, gN_P, bI_0, bI_ok, z0, z1, Bool.true_eq, Bool.false_eq_true, not_true_eq_false, not_false_eq_true]
theorem bk_24_1 {l0 l1 l2 l3 l4 : Option Value} {st : List Value} : aK d 24 (aBack 24 5 [l0, l1, l2, l3, l4] st (some (.inr eIO, H))) = L d 24 15 [l0, l1, l2, klL l3, none] [] H := by
  have e1 : hnd (mOc 24) 5 eIO (mHH 24) = some (some 13) := by decide +kernel
  have e2 : mDec 24 13 = some (.astore 4, 2) := by decide +kernel
  unfold aBack
  dsimp only
  rw [e1]
  dsimp only
  rw [e2]
  rfl
theorem bk_24_2 {l0 l1 l2 l3 l4 : Option Value} {st : List Value} : aK d 24 (aBack 24 5 [l0, l1, l2, l3, l4] st (some (.inr eIA, H))) = L d 24 19 [l0, l1, l2, klL l3, none] [] H := by
  have e1 : hnd (mOc 24) 5 eIA (mHH 24) = some (some 17) := by decide +kernel
  have e2 : mDec 24 17 = some (.astore 4, 2) := by decide +kernel
  unfold aBack
  dsimp only
  rw [e1]
  dsimp only
  rw [e2]
  rfl
theorem w_24 {o n' w' : Nat} {h' : aHf} {g' : Nat × Nat} {fo : Nat → Int64} {x2 x3 : Int32} {v : Int32} (hx : h x = some (aB 9 fs)) (hC : aE d 72 [.ref x, .int x2, .int x3] (h, n, w, g) = some (.inl (some (.int v)), (h', n', w', g'))) (ho : h' o = some (aL 1 fo)) : aE (d + 1) 24 [.ref x, .int x2, .int x3, .ref o] (h, n, w, g) = some (.inl (some (.int (iI 0))), (aup h' o (aL 1 (vp_updL fo 0 v.toInt64)), n', w', g')) := by
  rw [e24]
  simp (disch := omega) only [r24_0, r24_1, r24_2, r24_3, r24_4, r24_5, r24_8, r24_9, r24_10, r24_13, r24_15, r24_16, r24_17, r24_19, r24_20, r24_21, r24_22, hx, hC, ho, sL_1, kl_n, kl_i, kl_r, kl_z, kl_l, kl_d, catS_0, catS_c, cat_i, cat_l, cat_d, cat_r, cat_n, kC_r, kC_x, Option.bind_some, Option.toList_some, Option.toList_none, List.cons_append, List.nil_append, gB0, gB1, gB2, gB3, gB4, rvB, nI_iI, i0, i1, l0_, wr_s, aup_s, and_true, true_and, and_self, eq_self, if_true, if_false, Nat.zero_le, Nat.reduceAdd, Nat.reduceLeDiff, gN_I, gN_L, gN_P, bI_0, bI_ok, z0, z1, Bool.true_eq, Bool.false_eq_true, not_true_eq_false, not_false_eq_true]
theorem w_24_1 {o n' w' : Nat} {h' : aHf} {g' : Nat × Nat} {x2 x3 : Int32} (hx : h x = some (aB 9 fs)) (hC : aE d 72 [.ref x, .int x2, .int x3] (h, n, w, g) = some (.inr eIO, (h', n', w', g'))) : aE (d + 1) 24 [.ref x, .int x2, .int x3, .ref o] (h, n, w, g) = some (.inl (some (.int (iI 1))), (h', n', w', g')) := by
  rw [e24]
  simp (disch := omega) only [r24_0, r24_1, r24_2, r24_3, r24_4, r24_5, r24_8, r24_9, r24_10, r24_13, r24_15, r24_16, r24_17, r24_19, r24_20, r24_21, r24_22, hx, hC, bk_24_1, kl_n, kl_i, kl_r, kl_z, kl_l, kl_d, catS_0, catS_c, cat_i, cat_l, cat_d, cat_r, cat_n, kC_r, kC_x, Option.bind_some, Option.toList_some, Option.toList_none, List.cons_append, List.nil_append, gB0, gB1, gB2, gB3, gB4, rvB, nI_iI, i0, i1, l0_, wr_s, aup_s, and_true, true_and, and_self, eq_self, if_true, if_false, Nat.zero_le, Nat.reduceAdd, Nat.reduceLeDiff, gN_I, gN_L, gN_P, bI_0, bI_ok, z0, z1, Bool.true_eq, Bool.false_eq_true, not_true_eq_false, not_false_eq_true]
theorem w_24_2 {o n' w' : Nat} {h' : aHf} {g' : Nat × Nat} {x2 x3 : Int32} (hx : h x = some (aB 9 fs)) (hC : aE d 72 [.ref x, .int x2, .int x3] (h, n, w, g) = some (.inr eIA, (h', n', w', g'))) : aE (d + 1) 24 [.ref x, .int x2, .int x3, .ref o] (h, n, w, g) = some (.inl (some (.int (iI 2))), (h', n', w', g')) := by
  rw [e24]
  simp (disch := omega) only [r24_0, r24_1, r24_2, r24_3, r24_4, r24_5, r24_8, r24_9, r24_10, r24_13, r24_15, r24_16, r24_17, r24_19, r24_20, r24_21, r24_22, hx, hC, bk_24_2, kl_n, kl_i, kl_r, kl_z, kl_l, kl_d, catS_0, catS_c, cat_i, cat_l, cat_d, cat_r, cat_n, kC_r, kC_x, Option.bind_some, Option.toList_some, Option.toList_none, List.cons_append, List.nil_append, gB0, gB1, gB2, gB3, gB4, rvB, nI_iI, i0, i1, l0_, wr_s, aup_s, and_true, true_and, and_self, eq_self, if_true, if_false, Nat.zero_le, Nat.reduceAdd, Nat.reduceLeDiff, gN_I, gN_L, gN_P, bI_0, bI_ok, z0, z1, Bool.true_eq, Bool.false_eq_true, not_true_eq_false, not_false_eq_true]
theorem bk_25_1 {l0 l1 l2 l3 : Option Value} {st : List Value} : aK d 25 (aBack 25 4 [l0, l1, l2, l3] st (some (.inr eIA, H))) = L d 25 13 [l0, l1, klL l2, none] [] H := by
  have e1 : hnd (mOc 25) 4 eIA (mHH 25) = some (some 12) := by decide +kernel
  have e2 : mDec 25 12 = some (.astore_n 3, 1) := by decide +kernel
  unfold aBack
  dsimp only
  rw [e1]
  dsimp only
  rw [e2]
  rfl
theorem w_25 {o n' w' : Nat} {h' : aHf} {g' : Nat × Nat} {fo : Nat → Int64} {x2 : Int32} {v : Int32} (hx : h x = some (aB 9 fs)) (hC : aE d 73 [.ref x, .int x2] (h, n, w, g) = some (.inl (some (.int v)), (h', n', w', g'))) (ho : h' o = some (aL 1 fo)) : aE (d + 1) 25 [.ref x, .int x2, .ref o] (h, n, w, g) = some (.inl (some (.int (iI 0))), (aup h' o (aL 1 (vp_updL fo 0 v.toInt64)), n', w', g')) := by
  rw [e25]
  simp (disch := omega) only [r25_0, r25_1, r25_2, r25_3, r25_4, r25_7, r25_8, r25_9, r25_12, r25_13, r25_14, r25_15, r25_16, hx, hC, ho, sL_1, kl_n, kl_i, kl_r, kl_z, kl_l, kl_d, catS_0, catS_c, cat_i, cat_l, cat_d, cat_r, cat_n, kC_r, kC_x, Option.bind_some, Option.toList_some, Option.toList_none, List.cons_append, List.nil_append, gB0, gB1, gB2, gB3, gB4, rvB, nI_iI, i0, i1, l0_, wr_s, aup_s, and_true, true_and, and_self, eq_self, if_true, if_false, Nat.zero_le, Nat.reduceAdd, Nat.reduceLeDiff, gN_I, gN_L, gN_P, bI_0, bI_ok, z0, z1, Bool.true_eq, Bool.false_eq_true, not_true_eq_false, not_false_eq_true]
theorem w_25_1 {o n' w' : Nat} {h' : aHf} {g' : Nat × Nat} {x2 : Int32} (hx : h x = some (aB 9 fs)) (hC : aE d 73 [.ref x, .int x2] (h, n, w, g) = some (.inr eIA, (h', n', w', g'))) : aE (d + 1) 25 [.ref x, .int x2, .ref o] (h, n, w, g) = some (.inl (some (.int (iI 1))), (h', n', w', g')) := by
  rw [e25]
  simp (disch := omega) only [r25_0, r25_1, r25_2, r25_3, r25_4, r25_7, r25_8, r25_9, r25_12, r25_13, r25_14, r25_15, r25_16, hx, hC, bk_25_1, kl_n, kl_i, kl_r, kl_z, kl_l, kl_d, catS_0, catS_c, cat_i, cat_l, cat_d, cat_r, cat_n, kC_r, kC_x, Option.bind_some, Option.toList_some, Option.toList_none, List.cons_append, List.nil_append, gB0, gB1, gB2, gB3, gB4, rvB, nI_iI, i0, i1, l0_, wr_s, aup_s, and_true, true_and, and_self, eq_self, if_true, if_false, Nat.zero_le, Nat.reduceAdd, Nat.reduceLeDiff, gN_I, gN_L, gN_P, bI_0, bI_ok, z0, z1, Bool.true_eq, Bool.false_eq_true, not_true_eq_false, not_false_eq_true]
theorem bk_26_1 {l0 l1 l2 l3 l4 l5 l6 : Option Value} {st : List Value} : aK d 26 (aBack 26 9 [l0, l1, l2, l3, l4, l5, l6] st (some (.inr eIA, H))) = L d 26 19 [l0, l1, l2, l3, l4, klL l5, none] [] H := by
  have e1 : hnd (mOc 26) 9 eIA (mHH 26) = some (some 17) := by decide +kernel
  have e2 : mDec 26 17 = some (.astore 6, 2) := by decide +kernel
  unfold aBack
  dsimp only
  rw [e1]
  dsimp only
  rw [e2]
  rfl
theorem w_26 {o n' w' : Nat} {h' : aHf} {g' : Nat × Nat} {fo : Nat → Int64} {x2 x3 x4 x5 : Int32} {v : Int32} (hx : h x = some (aB 9 fs)) (hC : aE d 78 [.ref x, .int x2, .int x3, .int x4, .int x5] (h, n, w, g) = some (.inl (some (.int v)), (h', n', w', g'))) (ho : h' o = some (aL 1 fo)) : aE (d + 1) 26 [.ref x, .int x2, .int x3, .int x4, .int x5, .ref o] (h, n, w, g) = some (.inl (some (.int (iI 0))), (aup h' o (aL 1 (vp_updL fo 0 v.toInt64)), n', w', g')) := by
  rw [e26]
  simp (disch := omega) only [r26_0, r26_2, r26_3, r26_4, r26_5, r26_6, r26_7, r26_9, r26_12, r26_13, r26_14, r26_17, r26_19, r26_20, r26_21, r26_22, hx, hC, ho, sL_1, kl_n, kl_i, kl_r, kl_z, kl_l, kl_d, catS_0, catS_c, cat_i, cat_l, cat_d, cat_r, cat_n, kC_r, kC_x, Option.bind_some, Option.toList_some, Option.toList_none, List.cons_append, List.nil_append, gB0, gB1, gB2, gB3, gB4, rvB, nI_iI, i0, i1, l0_, wr_s, aup_s, and_true, true_and, and_self, eq_self, if_true, if_false, Nat.zero_le, Nat.reduceAdd, Nat.reduceLeDiff, gN_I, gN_L, gN_P, bI_0, bI_ok, z0, z1, Bool.true_eq, Bool.false_eq_true, not_true_eq_false, not_false_eq_true]
theorem w_26_1 {o n' w' : Nat} {h' : aHf} {g' : Nat × Nat} {x2 x3 x4 x5 : Int32} (hx : h x = some (aB 9 fs)) (hC : aE d 78 [.ref x, .int x2, .int x3, .int x4, .int x5] (h, n, w, g) = some (.inr eIA, (h', n', w', g'))) : aE (d + 1) 26 [.ref x, .int x2, .int x3, .int x4, .int x5, .ref o] (h, n, w, g) = some (.inl (some (.int (iI 1))), (h', n', w', g')) := by
  rw [e26]
  simp (disch := omega) only [r26_0, r26_2, r26_3, r26_4, r26_5, r26_6, r26_7, r26_9, r26_12, r26_13, r26_14, r26_17, r26_19, r26_20, r26_21, r26_22, hx, hC, bk_26_1, kl_n, kl_i, kl_r, kl_z, kl_l, kl_d, catS_0, catS_c, cat_i, cat_l, cat_d, cat_r, cat_n, kC_r, kC_x, Option.bind_some, Option.toList_some, Option.toList_none, List.cons_append, List.nil_append, gB0, gB1, gB2, gB3, gB4, rvB, nI_iI, i0, i1, l0_, wr_s, aup_s, and_true, true_and, and_self, eq_self, if_true, if_false, Nat.zero_le, Nat.reduceAdd, Nat.reduceLeDiff, gN_I, gN_L, gN_P, bI_0, bI_ok, z0, z1, Bool.true_eq, Bool.false_eq_true, not_true_eq_false, not_false_eq_true]
theorem bk_27_1 {l0 l1 l2 l3 : Option Value} {st : List Value} : aK d 27 (aBack 27 4 [l0, l1, l2, l3] st (some (.inr eIO, H))) = L d 27 13 [l0, l1, klL l2, none] [] H := by
  have e1 : hnd (mOc 27) 4 eIO (mHH 27) = some (some 12) := by decide +kernel
  have e2 : mDec 27 12 = some (.astore_n 3, 1) := by decide +kernel
  unfold aBack
  dsimp only
  rw [e1]
  dsimp only
  rw [e2]
  rfl
theorem w_27 {o n' w' : Nat} {h' : aHf} {g' : Nat × Nat} {fo : Nat → Int64} {x2 : Int32} {v : Int32} (hx : h x = some (aB 9 fs)) (hC : aE d 79 [.ref x, .int x2] (h, n, w, g) = some (.inl (some (.int v)), (h', n', w', g'))) (ho : h' o = some (aL 1 fo)) : aE (d + 1) 27 [.ref x, .int x2, .ref o] (h, n, w, g) = some (.inl (some (.int (iI 0))), (aup h' o (aL 1 (vp_updL fo 0 v.toInt64)), n', w', g')) := by
  rw [e27]
  simp (disch := omega) only [r27_0, r27_1, r27_2, r27_3, r27_4, r27_7, r27_8, r27_9, r27_12, r27_13, r27_14, r27_15, r27_16, hx, hC, ho, sL_1, kl_n, kl_i, kl_r, kl_z, kl_l, kl_d, catS_0, catS_c, cat_i, cat_l, cat_d, cat_r, cat_n, kC_r, kC_x, Option.bind_some, Option.toList_some, Option.toList_none, List.cons_append, List.nil_append, gB0, gB1, gB2, gB3, gB4, rvB, nI_iI, i0, i1, l0_, wr_s, aup_s, and_true, true_and, and_self, eq_self, if_true, if_false, Nat.zero_le, Nat.reduceAdd, Nat.reduceLeDiff, gN_I, gN_L, gN_P, bI_0, bI_ok, z0, z1, Bool.true_eq, Bool.false_eq_true, not_true_eq_false, not_false_eq_true]
theorem w_27_1 {o n' w' : Nat} {h' : aHf} {g' : Nat × Nat} {x2 : Int32} (hx : h x = some (aB 9 fs)) (hC : aE d 79 [.ref x, .int x2] (h, n, w, g) = some (.inr eIO, (h', n', w', g'))) : aE (d + 1) 27 [.ref x, .int x2, .ref o] (h, n, w, g) = some (.inl (some (.int (iI 1))), (h', n', w', g')) := by
  rw [e27]
  simp (disch := omega) only [r27_0, r27_1, r27_2, r27_3, r27_4, r27_7, r27_8, r27_9, r27_12, r27_13, r27_14, r27_15, r27_16, hx, hC, bk_27_1, kl_n, kl_i, kl_r, kl_z, kl_l, kl_d, catS_0, catS_c, cat_i, cat_l, cat_d, cat_r, cat_n, kC_r, kC_x, Option.bind_some, Option.toList_some, Option.toList_none, List.cons_append, List.nil_append, gB0, gB1, gB2, gB3, gB4, rvB, nI_iI, i0, i1, l0_, wr_s, aup_s, and_true, true_and, and_self, eq_self, if_true, if_false, Nat.zero_le, Nat.reduceAdd, Nat.reduceLeDiff, gN_I, gN_L, gN_P, bI_0, bI_ok, z0, z1, Bool.true_eq, Bool.false_eq_true, not_true_eq_false, not_false_eq_true]
theorem bk_28_1 {l0 l1 l2 l3 l4 l5 : Option Value} {st : List Value} : aK d 28 (aBack 28 7 [l0, l1, l2, l3, l4, l5] st (some (.inr eIA, H))) = L d 28 17 [l0, l1, l2, l3, klL l4, none] [] H := by
  have e1 : hnd (mOc 28) 7 eIA (mHH 28) = some (some 15) := by decide +kernel
  have e2 : mDec 28 15 = some (.astore 5, 2) := by decide +kernel
  unfold aBack
  dsimp only
  rw [e1]
  dsimp only
  rw [e2]
  rfl
theorem w_28 {o n' w' : Nat} {h' : aHf} {g' : Nat × Nat} {fo : Nat → Int64} {x2 x3 x4 : Int32} {v : Int32} (hx : h x = some (aB 9 fs)) (hC : aE d 81 [.ref x, .int x2, .int x3, .int x4] (h, n, w, g) = some (.inl (some (.int v)), (h', n', w', g'))) (ho : h' o = some (aL 1 fo)) : aE (d + 1) 28 [.ref x, .int x2, .int x3, .int x4, .ref o] (h, n, w, g) = some (.inl (some (.int (iI 0))), (aup h' o (aL 1 (vp_updL fo 0 v.toInt64)), n', w', g')) := by
  rw [e28]
  simp (disch := omega) only [r28_0, r28_2, r28_3, r28_4, r28_5, r28_6, r28_7, r28_10, r28_11, r28_12, r28_15, r28_17, r28_18, r28_19, r28_20, hx, hC, ho, sL_1, kl_n, kl_i, kl_r, kl_z, kl_l, kl_d, catS_0, catS_c, cat_i, cat_l, cat_d, cat_r, cat_n, kC_r, kC_x, Option.bind_some, Option.toList_some, Option.toList_none, List.cons_append, List.nil_append, gB0, gB1, gB2, gB3, gB4, rvB, nI_iI, i0, i1, l0_, wr_s, aup_s, and_true, true_and, and_self, eq_self, if_true, if_false, Nat.zero_le, Nat.reduceAdd, Nat.reduceLeDiff, gN_I, gN_L, gN_P, bI_0, bI_ok, z0, z1, Bool.true_eq, Bool.false_eq_true, not_true_eq_false, not_false_eq_true]
theorem w_28_1 {o n' w' : Nat} {h' : aHf} {g' : Nat × Nat} {x2 x3 x4 : Int32} (hx : h x = some (aB 9 fs)) (hC : aE d 81 [.ref x, .int x2, .int x3, .int x4] (h, n, w, g) = some (.inr eIA, (h', n', w', g'))) : aE (d + 1) 28 [.ref x, .int x2, .int x3, .int x4, .ref o] (h, n, w, g) = some (.inl (some (.int (iI 1))), (h', n', w', g')) := by
  rw [e28]
  simp (disch := omega) only [r28_0, r28_2, r28_3, r28_4, r28_5, r28_6, r28_7, r28_10, r28_11, r28_12, r28_15, r28_17, r28_18, r28_19, r28_20, hx, hC, bk_28_1, kl_n, kl_i, kl_r, kl_z, kl_l, kl_d, catS_0, catS_c, cat_i, cat_l, cat_d, cat_r, cat_n, kC_r, kC_x, Option.bind_some, Option.toList_some, Option.toList_none, List.cons_append, List.nil_append, gB0, gB1, gB2, gB3, gB4, rvB, nI_iI, i0, i1, l0_, wr_s, aup_s, and_true, true_and, and_self, eq_self, if_true, if_false, Nat.zero_le, Nat.reduceAdd, Nat.reduceLeDiff, gN_I, gN_L, gN_P, bI_0, bI_ok, z0, z1, Bool.true_eq, Bool.false_eq_true, not_true_eq_false, not_false_eq_true]
end
