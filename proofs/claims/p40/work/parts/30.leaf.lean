/-! ===== the class's smallest methods ===== -/
section
variable {d : Nat} {h : aHf} {r : Nat × Nat × Nat × Nat}
theorem s_isWithin {v a b : Int} (h1 : -2147483648 ≤ v) (h2 : v < 2147483648) (h3 : -2147483648 ≤ a) (h4 : a < 2147483648) (h5 : -2147483648 ≤ b) (h6 : b < 2147483648) : aE (d + 1) 33 [.int (iI v), .int (iI a), .int (iI b)] (h, r) = some (.inl (some (.int (bI (a ≤ v ∧ v ≤ b)))), (h, r)) := by
  simp (disch := omega) only [e33, r33_0, r33_1, r33_2, r33_5, r33_6, r33_7, r33_10, r33_11, r33_14, r33_15, iI_lt, iI_le, i0, i1, z0, z1, if_true]
  split
  · rw [bI_F (p := a ≤ v ∧ v ≤ b) (by omega)]
  · split
    · rw [bI_F (p := a ≤ v ∧ v ≤ b) (by omega)]
    · rw [bI_T (p := a ≤ v ∧ v ≤ b) (by omega)]
theorem s_isTrack {v : Int} (h1 : -2147483648 ≤ v) (h2 : v < 2147483648) : aE (d + 2) 35 [.int (iI v)] (h, r) = some (.inl (some (.int (bI (0 ≤ v ∧ v ≤ 5)))), (h, r)) := by
  simp (disch := omega) only [e35, r35_0, r35_1, r35_2, r35_3, r35_6, s_isWithin, kl_n, kl_i, kl_r, kl_z, kl_l, kl_d, catS_0, catS_c, cat_i, cat_l, cat_d, cat_r, cat_n, kC_r, kC_x, Option.bind_some, Option.toList_some, Option.toList_none, List.cons_append, List.nil_append, gB0, gB1, gB2, gB3, gB4, rvB, nI_iI, i0, i1, l0_, wr_s, aup_s, and_true, true_and, and_self, eq_self, if_true, if_false, Nat.zero_le, Nat.reduceAdd, Nat.reduceLeDiff, gN_I, gN_L, gN_P, bI_0, bI_ok, z0, z1, Bool.true_eq, Bool.false_eq_true, not_true_eq_false, not_false_eq_true]
theorem s_isTick {v : Int} (h1 : -2147483648 ≤ v) (h2 : v < 2147483648) : aE (d + 2) 36 [.int (iI v)] (h, r) = some (.inl (some (.int (bI (0 ≤ v ∧ v ≤ 9599)))), (h, r)) := by
  simp (disch := omega) only [e36, r36_0, r36_1, r36_2, r36_5, r36_8, s_isWithin, kl_n, kl_i, kl_r, kl_z, kl_l, kl_d, catS_0, catS_c, cat_i, cat_l, cat_d, cat_r, cat_n, kC_r, kC_x, Option.bind_some, Option.toList_some, Option.toList_none, List.cons_append, List.nil_append, gB0, gB1, gB2, gB3, gB4, rvB, nI_iI, i0, i1, l0_, wr_s, aup_s, and_true, true_and, and_self, eq_self, if_true, if_false, Nat.zero_le, Nat.reduceAdd, Nat.reduceLeDiff, gN_I, gN_L, gN_P, bI_0, bI_ok, z0, z1, Bool.true_eq, Bool.false_eq_true, not_true_eq_false, not_false_eq_true]
theorem s_isFarTick {v : Int} (h1 : -2147483648 ≤ v) (h2 : v < 2147483648) : aE (d + 2) 63 [.int (iI v)] (h, r) = some (.inl (some (.int (bI (0 ≤ v ∧ v ≤ 99999)))), (h, r)) := by
  simp (disch := omega) only [e63, r63_0, r63_1, r63_2, r63_5, r63_8, s_isWithin, kl_n, kl_i, kl_r, kl_z, kl_l, kl_d, catS_0, catS_c, cat_i, cat_l, cat_d, cat_r, cat_n, kC_r, kC_x, Option.bind_some, Option.toList_some, Option.toList_none, List.cons_append, List.nil_append, gB0, gB1, gB2, gB3, gB4, rvB, nI_iI, i0, i1, l0_, wr_s, aup_s, and_true, true_and, and_self, eq_self, if_true, if_false, Nat.zero_le, Nat.reduceAdd, Nat.reduceLeDiff, gN_I, gN_L, gN_P, bI_0, bI_ok, z0, z1, Bool.true_eq, Bool.false_eq_true, not_true_eq_false, not_false_eq_true]
theorem s_isStretch {v w : Int} (h1 : -2147483648 ≤ v) (h2 : v < 2147483648) (h3 : -2147483648 ≤ w) (h4 : w < 2147483648) : aE (d + 3) 41 [.int (iI v), .int (iI w)] (h, r) = some (.inl (some (.int (bI (0 ≤ v ∧ v < w ∧ w ≤ 9600)))), (h, r)) := by
  simp (disch := omega) only [e41, r41_0, r41_1, r41_4, r41_7, r41_8, r41_9, r41_12, r41_13, r41_16, r41_19, r41_20, r41_23, r41_24, s_isTick, iI_lt, iI_le, kl_n, kl_i, kl_r, kl_z, kl_l, kl_d, catS_0, catS_c, cat_i, cat_l, cat_d, cat_r, cat_n, kC_r, kC_x, Option.bind_some, Option.toList_some, Option.toList_none, List.cons_append, List.nil_append, gB0, gB1, gB2, gB3, gB4, rvB, nI_iI, i0, i1, l0_, wr_s, aup_s, and_true, true_and, and_self, eq_self, if_true, if_false, Nat.zero_le, Nat.reduceAdd, Nat.reduceLeDiff, gN_I, gN_L, gN_P, bI_0, bI_ok, z0, z1, Bool.true_eq, Bool.false_eq_true, not_true_eq_false, not_false_eq_true]
  by_cases q : 0 ≤ v ∧ v < w ∧ w ≤ 9600
  · rw [if_neg (by omega), if_neg (by omega), if_neg (by omega), bI_T q]
  · rw [← bI_F q]
    split
    · rfl
    · split
      · rfl
      · rw [if_pos (by omega)]
theorem s_isRange {t v w : Int} (h5 : -2147483648 ≤ t) (h6 : t < 2147483648) (h1 : -2147483648 ≤ v) (h2 : v < 2147483648) (h3 : -2147483648 ≤ w) (h4 : w < 2147483648) : aE (d + 4) 42 [.int (iI t), .int (iI v), .int (iI w)] (h, r) = some (.inl (some (.int (bI (-1 ≤ t ∧ t ≤ 5 ∧ 0 ≤ v ∧ v < w ∧ w ≤ 9600)))), (h, r)) := by
  simp (disch := omega) only [e42, r42_0, r42_1, r42_2, r42_3, r42_6, r42_9, r42_10, r42_11, r42_14, r42_17, r42_18, r42_21, r42_22, s_isWithin, s_isStretch, iI_lt, iI_le, kl_n, kl_i, kl_r, kl_z, kl_l, kl_d, catS_0, catS_c, cat_i, cat_l, cat_d, cat_r, cat_n, kC_r, kC_x, Option.bind_some, Option.toList_some, Option.toList_none, List.cons_append, List.nil_append, gB0, gB1, gB2, gB3, gB4, rvB, nI_iI, i0, i1, l0_, wr_s, aup_s, and_true, true_and, and_self, eq_self, if_true, if_false, Nat.zero_le, Nat.reduceAdd, Nat.reduceLeDiff, gN_I, gN_L, gN_P, bI_0, bI_ok, z0, z1, Bool.true_eq, Bool.false_eq_true, not_true_eq_false, not_false_eq_true]
  by_cases q : -1 ≤ t ∧ t ≤ 5 ∧ 0 ≤ v ∧ v < w ∧ w ≤ 9600
  · rw [if_neg (by omega), if_neg (by omega), bI_T q]
  · rw [← bI_F q]
    split
    · rfl
    · rw [if_pos (by omega)]
/-! rows of numbers -/
theorem s_intAt {c N : Nat} {f : Nat → Int32} {j : Int} (hc : h c = some (aI .int N f)) (h1 : 0 ≤ j) (h2 : j < N) (h3 : N < 2147483648) : aE (d + 1) 31 [.ref c, .int (iI j)] (h, r) = some (.inl (some (.int (f j.toNat))), (h, r)) := by
  simp (disch := omega) only [e31, r31_0, r31_1, r31_1n, r31_4, r31_5, r31_8, r31_9, r31_10, r31_11, r31_14, r31_15, r31_16, r31_17, r31_20, r31_21, hc, iI_lt, iI_le, gI_I, kl_n, kl_i, kl_r, kl_z, kl_l, kl_d, catS_0, catS_c, cat_i, cat_l, cat_d, cat_r, cat_n, kC_r, kC_x, Option.bind_some, Option.toList_some, Option.toList_none, List.cons_append, List.nil_append, gB0, gB1, gB2, gB3, gB4, rvB, nI_iI, i0, i1, l0_, wr_s, aup_s, and_true, true_and, and_self, eq_self, if_true, if_false, Nat.zero_le, Nat.reduceAdd, Nat.reduceLeDiff, gN_I, gN_L, gN_P, bI_0, bI_ok, z0, z1, Bool.true_eq, Bool.false_eq_true, not_true_eq_false, not_false_eq_true]
  rw [if_neg (by omega), if_neg (by omega)]
theorem s_longAt {c N : Nat} {f : Nat → Int64} {j : Int} (hc : h c = some (aL N f)) (h1 : 0 ≤ j) (h2 : j < N) (h3 : N < 2147483648) : aE (d + 1) 30 [.ref c, .int (iI j)] (h, r) = some (.inl (some (.long (f j.toNat))), (h, r)) := by
  simp (disch := omega) only [e30, r30_0, r30_1, r30_1n, r30_4, r30_5, r30_8, r30_9, r30_10, r30_11, r30_14, r30_15, r30_16, r30_17, r30_20, r30_21, hc, iI_lt, iI_le, gL_L, kl_n, kl_i, kl_r, kl_z, kl_l, kl_d, catS_0, catS_c, cat_i, cat_l, cat_d, cat_r, cat_n, kC_r, kC_x, Option.bind_some, Option.toList_some, Option.toList_none, List.cons_append, List.nil_append, gB0, gB1, gB2, gB3, gB4, rvB, nI_iI, i0, i1, l0_, wr_s, aup_s, and_true, true_and, and_self, eq_self, if_true, if_false, Nat.zero_le, Nat.reduceAdd, Nat.reduceLeDiff, gN_I, gN_L, gN_P, bI_0, bI_ok, z0, z1, Bool.true_eq, Bool.false_eq_true, not_true_eq_false, not_false_eq_true]
  rw [if_neg (by omega), if_neg (by omega)]
theorem s_putInt {c N : Nat} {f : Nat → Int32} {j : Int} {x : Int32} (hc : h c = some (aI .int N f)) (h1 : 0 ≤ j) (h2 : j < N) (h3 : N < 2147483648) : aE (d + 1) 29 [.ref c, .int (iI j), .int x] (h, r) = some (.inl none, (aup h c (aI .int N (upd f j.toNat x)), r)) := by
  simp (disch := omega) only [e29, r29_0, r29_1, r29_1n, r29_4, r29_5, r29_8, r29_9, r29_10, r29_11, r29_14, r29_15, r29_16, r29_17, r29_18, hc, iI_lt, iI_le, sI_I, kl_n, kl_i, kl_r, kl_z, kl_l, kl_d, catS_0, catS_c, cat_i, cat_l, cat_d, cat_r, cat_n, kC_r, kC_x, Option.bind_some, Option.toList_some, Option.toList_none, List.cons_append, List.nil_append, gB0, gB1, gB2, gB3, gB4, rvB, nI_iI, i0, i1, l0_, wr_s, aup_s, and_true, true_and, and_self, eq_self, if_true, if_false, Nat.zero_le, Nat.reduceAdd, Nat.reduceLeDiff, gN_I, gN_L, gN_P, bI_0, bI_ok, z0, z1, Bool.true_eq, Bool.false_eq_true, not_true_eq_false, not_false_eq_true]
  rw [if_neg (by omega), if_neg (by omega)]
theorem s_putLong {c N : Nat} {f : Nat → Int64} {j : Int} {x : Int64} (hc : h c = some (aL N f)) (h1 : 0 ≤ j) (h2 : j < N) (h3 : N < 2147483648) : aE (d + 1) 32 [.ref c, .int (iI j), .long x] (h, r) = some (.inl none, (aup h c (aL N (vp_updL f j.toNat x)), r)) := by
  simp (disch := omega) only [e32, r32_0, r32_1, r32_1n, r32_4, r32_5, r32_8, r32_9, r32_10, r32_11, r32_14, r32_15, r32_16, r32_17, r32_18, hc, iI_lt, iI_le, sL_L, kl_n, kl_i, kl_r, kl_z, kl_l, kl_d, catS_0, catS_c, cat_i, cat_l, cat_d, cat_r, cat_n, kC_r, kC_x, Option.bind_some, Option.toList_some, Option.toList_none, List.cons_append, List.nil_append, gB0, gB1, gB2, gB3, gB4, rvB, nI_iI, i0, i1, l0_, wr_s, aup_s, and_true, true_and, and_self, eq_self, if_true, if_false, Nat.zero_le, Nat.reduceAdd, Nat.reduceLeDiff, gN_I, gN_L, gN_P, bI_0, bI_ok, z0, z1, Bool.true_eq, Bool.false_eq_true, not_true_eq_false, not_false_eq_true]
  rw [if_neg (by omega), if_neg (by omega)]
/-! numbers -/
theorem s_max {a b : Int} (h1 : -2147483648 ≤ a) (h2 : a < 2147483648) (h3 : -2147483648 ≤ b) (h4 : b < 2147483648) : aE (d + 1) 263 [.int (iI a), .int (iI b)] (h, r) = some (.inl (some (.int (iI (max a b)))), (h, r)) := by
  simp (disch := omega) only [e263, r263_0, r263_1, r263_2, r263_5, r263_6, r263_9, r263_10, iI_lt, iI_le, kl_n, kl_i, kl_r, kl_z, kl_l, kl_d, catS_0, catS_c, cat_i, cat_l, cat_d, cat_r, cat_n, kC_r, kC_x, Option.bind_some, Option.toList_some, Option.toList_none, List.cons_append, List.nil_append, gB0, gB1, gB2, gB3, gB4, rvB, nI_iI, i0, i1, l0_, wr_s, aup_s, and_true, true_and, and_self, eq_self, if_true, if_false, Nat.zero_le, Nat.reduceAdd, Nat.reduceLeDiff, gN_I, gN_L, gN_P, bI_0, bI_ok, z0, z1, Bool.true_eq, Bool.false_eq_true, not_true_eq_false, not_false_eq_true]
  split
  · rw [Int.max_eq_right (by omega)]
  · rw [Int.max_eq_left (by omega)]
theorem s_min {a b : Int} (h1 : -2147483648 ≤ a) (h2 : a < 2147483648) (h3 : -2147483648 ≤ b) (h4 : b < 2147483648) : aE (d + 1) 264 [.int (iI a), .int (iI b)] (h, r) = some (.inl (some (.int (iI (min a b)))), (h, r)) := by
  simp (disch := omega) only [e264, r264_0, r264_1, r264_2, r264_5, r264_6, r264_9, r264_10, iI_lt, iI_le, kl_n, kl_i, kl_r, kl_z, kl_l, kl_d, catS_0, catS_c, cat_i, cat_l, cat_d, cat_r, cat_n, kC_r, kC_x, Option.bind_some, Option.toList_some, Option.toList_none, List.cons_append, List.nil_append, gB0, gB1, gB2, gB3, gB4, rvB, nI_iI, i0, i1, l0_, wr_s, aup_s, and_true, true_and, and_self, eq_self, if_true, if_false, Nat.zero_le, Nat.reduceAdd, Nat.reduceLeDiff, gN_I, gN_L, gN_P, bI_0, bI_ok, z0, z1, Bool.true_eq, Bool.false_eq_true, not_true_eq_false, not_false_eq_true]
  split
  · rw [Int.min_eq_right (by omega)]
  · rw [Int.min_eq_left (by omega)]
theorem s_abs {a : Int} (h1 : -2147483648 < a) (h2 : a < 2147483648) : aE (d + 1) 262 [.int (iI a)] (h, r) = some (.inl (some (.int (iI (a.natAbs)))), (h, r)) := by
  simp (disch := omega) only [e262, r262_0, r262_1, r262_4, r262_5, r262_6, r262_9, r262_10, iI_lt, iI_le, iI_neg, kl_n, kl_i, kl_r, kl_z, kl_l, kl_d, catS_0, catS_c, cat_i, cat_l, cat_d, cat_r, cat_n, kC_r, kC_x, Option.bind_some, Option.toList_some, Option.toList_none, List.cons_append, List.nil_append, gB0, gB1, gB2, gB3, gB4, rvB, nI_iI, i0, i1, l0_, wr_s, aup_s, and_true, true_and, and_self, eq_self, if_true, if_false, Nat.zero_le, Nat.reduceAdd, Nat.reduceLeDiff, gN_I, gN_L, gN_P, bI_0, bI_ok, z0, z1, Bool.true_eq, Bool.false_eq_true, not_true_eq_false, not_false_eq_true]
  split
  · rw [show ((a.natAbs : Nat) : Int) = a by omega]
  · rw [show ((a.natAbs : Nat) : Int) = -a by omega]
/-! notes as numbers -/
theorem lshm38 (a : Int) : lI a <<< (lI 38 &&& 63) = lI (a * 274877906944) := by
  have e := lshl38 a
  rwa [i_l (by omega) (by omega)] at e
theorem lshm24 (a : Int) : lI a <<< (lI 24 &&& 63) = lI (a * 16777216) := by
  have e := lshl24 a
  rwa [i_l (by omega) (by omega)] at e
theorem lshm17 (a : Int) : lI a <<< (lI 17 &&& 63) = lI (a * 131072) := by
  have e := lshl17 a
  rwa [i_l (by omega) (by omega)] at e
theorem lshm7 (a : Int) : lI a <<< (lI 7 &&& 63) = lI (a * 128) := by
  have e := lshl7 a
  rwa [i_l (by omega) (by omega)] at e
theorem lshm18 (a : Int) : lI a <<< (lI 18 &&& 63) = lI (a * 262144) := by
  have e := lshl18 a
  rwa [i_l (by omega) (by omega)] at e
theorem lshm14 (a : Int) : lI a <<< (lI 14 &&& 63) = lI (a * 16384) := by
  have e := lshl14 a
  rwa [i_l (by omega) (by omega)] at e
theorem lshm20 (a : Int) : lI a <<< (lI 20 &&& 63) = lI (a * 1048576) := by
  have e := lshl20 a
  rwa [i_l (by omega) (by omega)] at e
theorem lshs38 {a : Int} (h1 : -9223372036854775808 ≤ a) (h2 : a < 9223372036854775808) : lI a >>> (lI 38 &&& 63) = lI (a / 274877906944) := by
  have e := lshr38 h1 h2
  rwa [i_l (by omega) (by omega)] at e
theorem lshs24 {a : Int} (h1 : -9223372036854775808 ≤ a) (h2 : a < 9223372036854775808) : lI a >>> (lI 24 &&& 63) = lI (a / 16777216) := by
  have e := lshr24 h1 h2
  rwa [i_l (by omega) (by omega)] at e
theorem lshs17 {a : Int} (h1 : -9223372036854775808 ≤ a) (h2 : a < 9223372036854775808) : lI a >>> (lI 17 &&& 63) = lI (a / 131072) := by
  have e := lshr17 h1 h2
  rwa [i_l (by omega) (by omega)] at e
theorem lshs7 {a : Int} (h1 : -9223372036854775808 ≤ a) (h2 : a < 9223372036854775808) : lI a >>> (lI 7 &&& 63) = lI (a / 128) := by
  have e := lshr7 h1 h2
  rwa [i_l (by omega) (by omega)] at e
theorem lshs18 {a : Int} (h1 : -9223372036854775808 ≤ a) (h2 : a < 9223372036854775808) : lI a >>> (lI 18 &&& 63) = lI (a / 262144) := by
  have e := lshr18 h1 h2
  rwa [i_l (by omega) (by omega)] at e
theorem lshs14 {a : Int} (h1 : -9223372036854775808 ≤ a) (h2 : a < 9223372036854775808) : lI a >>> (lI 14 &&& 63) = lI (a / 16384) := by
  have e := lshr14 h1 h2
  rwa [i_l (by omega) (by omega)] at e
theorem lshs20 {a : Int} (h1 : -9223372036854775808 ≤ a) (h2 : a < 9223372036854775808) : lI a >>> (lI 20 &&& 63) = lI (a / 1048576) := by
  have e := lshr20 h1 h2
  rwa [i_l (by omega) (by omega)] at e
theorem lshs21 {a : Int} (h1 : -9223372036854775808 ≤ a) (h2 : a < 9223372036854775808) : lI a >>> (lI 21 &&& 63) = lI (a / 2097152) := by
  have e := lshr21 h1 h2
  rwa [i_l (by omega) (by omega)] at e
theorem s_of {t s l p f : Nat} (ht : t < 8) (hs : s < 16384) (hl : l < 1024) (hp : p < 128) (hf : f < 128) : aE (d + 1) 86 [.int (iI t), .int (iI s), .int (iI l), .int (iI p), .int (iI f)] (h, r) = some (.inl (some (.long (lI (cO t s p l f)))), (h, r)) := by
  simp (disch := omega) only [e86, r86_0, r86_1, r86_2, r86_4, r86_5, r86_6, r86_7, r86_9, r86_10, r86_11, r86_12, r86_13, r86_15, r86_16, r86_17, r86_18, r86_19, r86_21, r86_22, r86_23, r86_25, r86_26, r86_27, i_l, lshm38, lshm24, lshm17, lshm7, kl_n, kl_i, kl_r, kl_z, kl_l, kl_d, catS_0, catS_c, cat_i, cat_l, cat_d, cat_r, cat_n, kC_r, kC_x, Option.bind_some, Option.toList_some, Option.toList_none, List.cons_append, List.nil_append, gB0, gB1, gB2, gB3, gB4, rvB, nI_iI, i0, i1, l0_, wr_s, aup_s, and_true, true_and, and_self, eq_self, if_true, if_false, Nat.zero_le, Nat.reduceAdd, Nat.reduceLeDiff, gN_I, gN_L, gN_P, bI_0, bI_ok, z0, z1, Bool.true_eq, Bool.false_eq_true, not_true_eq_false, not_false_eq_true]
  rw [lor38 (a := t) (b := s * 16777216) (by omega) (by omega) (by omega) (by omega)]
  rw [show (t : Int) * 274877906944 + s * 16777216 = (t * 16384 + s) * 16777216 by omega]
  rw [lor24 (a := t * 16384 + s) (b := p * 131072) (by omega) (by omega) (by omega) (by omega)]
  rw [show ((t : Int) * 16384 + s) * 16777216 + p * 131072 = ((t * 16384 + s) * 128 + p) * 131072 by omega]
  rw [lor17 (a := (t * 16384 + s) * 128 + p) (b := l * 128) (by omega) (by omega) (by omega) (by omega)]
  rw [show (((t : Int) * 16384 + s) * 128 + p) * 131072 + l * 128 = (((t * 16384 + s) * 128 + p) * 1024 + l) * 128 by omega]
  rw [lor7 (a := ((t * 16384 + s) * 128 + p) * 1024 + l) (b := f) (by omega) (by omega) (by omega) (by omega)]
  rw [show ((((t : Int) * 16384 + s) * 128 + p) * 1024 + l) * 128 + f = ((cO t s p l f : Nat) : Int) by unfold cO; omega]
theorem s_track {c : Nat} (hc : cOk c) : aE (d + 1) 87 [.long (lI c)] (h, r) = some (.inl (some (.int (iI (cT c)))), (h, r)) := by
  unfold cOk at hc
  simp (disch := omega) only [e87, r87_0, r87_1, r87_3, r87_4, r87_5, r87_7, r87_8, lshr38, l_i, iand7, kl_n, kl_i, kl_r, kl_z, kl_l, kl_d, catS_0, catS_c, cat_i, cat_l, cat_d, cat_r, cat_n, kC_r, kC_x, Option.bind_some, Option.toList_some, Option.toList_none, List.cons_append, List.nil_append, gB0, gB1, gB2, gB3, gB4, rvB, nI_iI, i0, i1, l0_, wr_s, aup_s, and_true, true_and, and_self, eq_self, if_true, if_false, Nat.zero_le, Nat.reduceAdd, Nat.reduceLeDiff, gN_I, gN_L, gN_P, bI_0, bI_ok, z0, z1, Bool.true_eq, Bool.false_eq_true, not_true_eq_false, not_false_eq_true]
  rw [show (c : Int) / 274877906944 % 8 = ((cT c : Nat) : Int) by unfold cT; omega]
theorem s_start {c : Nat} (hc : cOk c) : aE (d + 1) 88 [.long (lI c)] (h, r) = some (.inl (some (.int (iI (cS c)))), (h, r)) := by
  unfold cOk at hc
  simp (disch := omega) only [e88, r88_0, r88_1, r88_3, r88_4, r88_5, r88_8, r88_9, lshr24, l_i, iand16383, kl_n, kl_i, kl_r, kl_z, kl_l, kl_d, catS_0, catS_c, cat_i, cat_l, cat_d, cat_r, cat_n, kC_r, kC_x, Option.bind_some, Option.toList_some, Option.toList_none, List.cons_append, List.nil_append, gB0, gB1, gB2, gB3, gB4, rvB, nI_iI, i0, i1, l0_, wr_s, aup_s, and_true, true_and, and_self, eq_self, if_true, if_false, Nat.zero_le, Nat.reduceAdd, Nat.reduceLeDiff, gN_I, gN_L, gN_P, bI_0, bI_ok, z0, z1, Bool.true_eq, Bool.false_eq_true, not_true_eq_false, not_false_eq_true]
  rw [show (c : Int) / 16777216 % 16384 = ((cS c : Nat) : Int) by unfold cS; omega]
theorem s_pitch {c : Nat} (hc : cOk c) : aE (d + 1) 89 [.long (lI c)] (h, r) = some (.inl (some (.int (iI (cP c)))), (h, r)) := by
  unfold cOk at hc
  simp (disch := omega) only [e89, r89_0, r89_1, r89_3, r89_4, r89_5, r89_7, r89_8, lshr17, l_i, iand127, kl_n, kl_i, kl_r, kl_z, kl_l, kl_d, catS_0, catS_c, cat_i, cat_l, cat_d, cat_r, cat_n, kC_r, kC_x, Option.bind_some, Option.toList_some, Option.toList_none, List.cons_append, List.nil_append, gB0, gB1, gB2, gB3, gB4, rvB, nI_iI, i0, i1, l0_, wr_s, aup_s, and_true, true_and, and_self, eq_self, if_true, if_false, Nat.zero_le, Nat.reduceAdd, Nat.reduceLeDiff, gN_I, gN_L, gN_P, bI_0, bI_ok, z0, z1, Bool.true_eq, Bool.false_eq_true, not_true_eq_false, not_false_eq_true]
  rw [show (c : Int) / 131072 % 128 = ((cP c : Nat) : Int) by unfold cP; omega]
theorem s_length {c : Nat} (hc : cOk c) : aE (d + 1) 90 [.long (lI c)] (h, r) = some (.inl (some (.int (iI (cL c)))), (h, r)) := by
  unfold cOk at hc
  simp (disch := omega) only [e90, r90_0, r90_1, r90_3, r90_4, r90_5, r90_8, r90_9, lshr7, l_i, iand1023, kl_n, kl_i, kl_r, kl_z, kl_l, kl_d, catS_0, catS_c, cat_i, cat_l, cat_d, cat_r, cat_n, kC_r, kC_x, Option.bind_some, Option.toList_some, Option.toList_none, List.cons_append, List.nil_append, gB0, gB1, gB2, gB3, gB4, rvB, nI_iI, i0, i1, l0_, wr_s, aup_s, and_true, true_and, and_self, eq_self, if_true, if_false, Nat.zero_le, Nat.reduceAdd, Nat.reduceLeDiff, gN_I, gN_L, gN_P, bI_0, bI_ok, z0, z1, Bool.true_eq, Bool.false_eq_true, not_true_eq_false, not_false_eq_true]
  rw [show (c : Int) / 128 % 1024 = ((cL c : Nat) : Int) by unfold cL; omega]
theorem s_force {c : Nat} (hc : cOk c) : aE (d + 1) 91 [.long (lI c)] (h, r) = some (.inl (some (.int (iI (cF c)))), (h, r)) := by
  unfold cOk at hc
  simp (disch := omega) only [e91, r91_0, r91_1, r91_2, r91_4, r91_5, l_i, iand127, kl_n, kl_i, kl_r, kl_z, kl_l, kl_d, catS_0, catS_c, cat_i, cat_l, cat_d, cat_r, cat_n, kC_r, kC_x, Option.bind_some, Option.toList_some, Option.toList_none, List.cons_append, List.nil_append, gB0, gB1, gB2, gB3, gB4, rvB, nI_iI, i0, i1, l0_, wr_s, aup_s, and_true, true_and, and_self, eq_self, if_true, if_false, Nat.zero_le, Nat.reduceAdd, Nat.reduceLeDiff, gN_I, gN_L, gN_P, bI_0, bI_ok, z0, z1, Bool.true_eq, Bool.false_eq_true, not_true_eq_false, not_false_eq_true]
  rw [show (c : Int) % 128 = ((cF c : Nat) : Int) by unfold cF; omega]
theorem s_end {c : Nat} (hc : cOk c) : aE (d + 2) 92 [.long (lI c)] (h, r) = some (.inl (some (.int (iI (cS c + cL c)))), (h, r)) := by
  simp only [e92, r92_0, r92_1, r92_4, r92_5, r92_8, r92_9, s_start hc, s_length hc, iI_add, kl_n, kl_i, kl_r, kl_z, kl_l, kl_d, catS_0, catS_c, cat_i, cat_l, cat_d, cat_r, cat_n, kC_r, kC_x, Option.bind_some, Option.toList_some, Option.toList_none, List.cons_append, List.nil_append, gB0, gB1, gB2, gB3, gB4, rvB, nI_iI, i0, i1, l0_, wr_s, aup_s, and_true, true_and, and_self, eq_self, if_true, if_false, Nat.zero_le, Nat.reduceAdd, Nat.reduceLeDiff, gN_I, gN_L, gN_P, bI_0, bI_ok, z0, z1, Bool.true_eq, Bool.false_eq_true, not_true_eq_false, not_false_eq_true]
theorem s_withStart {c s : Nat} (hc : cOk c) (hs : s < 16384) : aE (d + 2) 93 [.long (lI c), .int (iI s)] (h, r) = some (.inl (some (.long (lI (cO (cT c) s (cP c) (cL c) (cF c))))), (h, r)) := by
  simp only [e93, r93_0, r93_1, r93_4, r93_5, r93_6, r93_9, r93_10, r93_13, r93_14, r93_17, r93_20, s_track hc, s_length hc, s_pitch hc, s_force hc, s_of (cT_lt hc) hs (cL_lt c) (cP_lt c) (cF_lt c), kl_n, kl_i, kl_r, kl_z, kl_l, kl_d, catS_0, catS_c, cat_i, cat_l, cat_d, cat_r, cat_n, kC_r, kC_x, Option.bind_some, Option.toList_some, Option.toList_none, List.cons_append, List.nil_append, gB0, gB1, gB2, gB3, gB4, rvB, nI_iI, i0, i1, l0_, wr_s, aup_s, and_true, true_and, and_self, eq_self, if_true, if_false, Nat.zero_le, Nat.reduceAdd, Nat.reduceLeDiff, gN_I, gN_L, gN_P, bI_0, bI_ok, z0, z1, Bool.true_eq, Bool.false_eq_true, not_true_eq_false, not_false_eq_true]
theorem s_withLength {c l : Nat} (hc : cOk c) (hl : l < 1024) : aE (d + 2) 94 [.long (lI c), .int (iI l)] (h, r) = some (.inl (some (.long (lI (cO (cT c) (cS c) (cP c) l (cF c))))), (h, r)) := by
  simp only [e94, r94_0, r94_1, r94_4, r94_5, r94_8, r94_9, r94_10, r94_13, r94_14, r94_17, r94_20, s_track hc, s_start hc, s_pitch hc, s_force hc, s_of (cT_lt hc) (cS_lt c) hl (cP_lt c) (cF_lt c), kl_n, kl_i, kl_r, kl_z, kl_l, kl_d, catS_0, catS_c, cat_i, cat_l, cat_d, cat_r, cat_n, kC_r, kC_x, Option.bind_some, Option.toList_some, Option.toList_none, List.cons_append, List.nil_append, gB0, gB1, gB2, gB3, gB4, rvB, nI_iI, i0, i1, l0_, wr_s, aup_s, and_true, true_and, and_self, eq_self, if_true, if_false, Nat.zero_le, Nat.reduceAdd, Nat.reduceLeDiff, gN_I, gN_L, gN_P, bI_0, bI_ok, z0, z1, Bool.true_eq, Bool.false_eq_true, not_true_eq_false, not_false_eq_true]
theorem s_withPitch {c p : Nat} (hc : cOk c) (hp : p < 128) : aE (d + 2) 95 [.long (lI c), .int (iI p)] (h, r) = some (.inl (some (.long (lI (cO (cT c) (cS c) p (cL c) (cF c))))), (h, r)) := by
  simp only [e95, r95_0, r95_1, r95_4, r95_5, r95_8, r95_9, r95_12, r95_13, r95_14, r95_17, r95_20, s_track hc, s_start hc, s_length hc, s_force hc, s_of (cT_lt hc) (cS_lt c) (cL_lt c) hp (cF_lt c), kl_n, kl_i, kl_r, kl_z, kl_l, kl_d, catS_0, catS_c, cat_i, cat_l, cat_d, cat_r, cat_n, kC_r, kC_x, Option.bind_some, Option.toList_some, Option.toList_none, List.cons_append, List.nil_append, gB0, gB1, gB2, gB3, gB4, rvB, nI_iI, i0, i1, l0_, wr_s, aup_s, and_true, true_and, and_self, eq_self, if_true, if_false, Nat.zero_le, Nat.reduceAdd, Nat.reduceLeDiff, gN_I, gN_L, gN_P, bI_0, bI_ok, z0, z1, Bool.true_eq, Bool.false_eq_true, not_true_eq_false, not_false_eq_true]
theorem s_withForce {c f : Nat} (hc : cOk c) (hf : f < 128) : aE (d + 2) 96 [.long (lI c), .int (iI f)] (h, r) = some (.inl (some (.long (lI (cO (cT c) (cS c) (cP c) (cL c) f)))), (h, r)) := by
  simp only [e96, r96_0, r96_1, r96_4, r96_5, r96_8, r96_9, r96_12, r96_13, r96_16, r96_17, r96_20, s_track hc, s_start hc, s_length hc, s_pitch hc, s_of (cT_lt hc) (cS_lt c) (cL_lt c) (cP_lt c) hf, kl_n, kl_i, kl_r, kl_z, kl_l, kl_d, catS_0, catS_c, cat_i, cat_l, cat_d, cat_r, cat_n, kC_r, kC_x, Option.bind_some, Option.toList_some, Option.toList_none, List.cons_append, List.nil_append, gB0, gB1, gB2, gB3, gB4, rvB, nI_iI, i0, i1, l0_, wr_s, aup_s, and_true, true_and, and_self, eq_self, if_true, if_false, Nat.zero_le, Nat.reduceAdd, Nat.reduceLeDiff, gN_I, gN_L, gN_P, bI_0, bI_ok, z0, z1, Bool.true_eq, Bool.false_eq_true, not_true_eq_false, not_false_eq_true]
/-- a note lies in a range -/
abbrev cIn (c : Nat) (t v w : Int) : Prop := (t = -1 ∨ t = cT c) ∧ v ≤ cS c ∧ (cS c : Int) < w
theorem s_isIn {c : Nat} {t v w : Int} (hc : cOk c) (h5 : -2147483648 ≤ t) (h6 : t < 2147483648) (h1 : -2147483648 ≤ v) (h2 : v < 2147483648) (h3 : -2147483648 ≤ w) (h4 : w < 2147483648) : aE (d + 2) 97 [.long (lI c), .int (iI t), .int (iI v), .int (iI w)] (h, r) = some (.inl (some (.int (bI (cIn c t v w)))), (h, r)) := by
  have a1 := cT_lt hc
  have a2 := cS_lt c
  simp (disch := omega) only [e97, r97_0, r97_1, r97_2, r97_5, r97_6, r97_7, r97_10, r97_13, r97_14, r97_17, r97_18, r97_21, r97_22, r97_25, r97_27, r97_30, r97_31, r97_34, r97_35, s_track hc, s_start hc, iI_lt, iI_le, iI_eq, kl_n, kl_i, kl_r, kl_z, kl_l, kl_d, catS_0, catS_c, cat_i, cat_l, cat_d, cat_r, cat_n, kC_r, kC_x, Option.bind_some, Option.toList_some, Option.toList_none, List.cons_append, List.nil_append, gB0, gB1, gB2, gB3, gB4, rvB, nI_iI, i0, i1, l0_, wr_s, aup_s, and_true, true_and, and_self, eq_self, if_true, if_false, Nat.zero_le, Nat.reduceAdd, Nat.reduceLeDiff, gN_I, gN_L, gN_P, bI_0, bI_ok, z0, z1, Bool.true_eq, Bool.false_eq_true, not_true_eq_false, not_false_eq_true]
  by_cases q : cIn c t v w
  · rw [← bI_T q]
    unfold cIn at q
    split
    · rw [if_neg (by omega), if_neg (by omega)]
    · rw [if_pos (by omega), if_neg (by omega), if_neg (by omega)]
  · rw [← bI_F q]
    unfold cIn at q
    split
    · split
      · rfl
      · rw [if_pos (by omega)]
    · split
      · split
        · rfl
        · rw [if_pos (by omega)]
      · rfl
end
