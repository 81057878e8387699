/-! ===== the reference: small tests, two notes compared ===== -/
theorem fin_1 {h : aHf} {n n' : Nat} {r s : Nat × Nat × Nat × Nat} {v : aC} {o : aO} : aFin true (h, n, r.2) (some (o, (aup h n v, n', s.2))) = some (o, (h, n', s.2)) := by
  refine congrArg some (congrArg (Prod.mk _) (congrArg (fun z => (z, n', s.2)) ?_))
  funext q
  show (if q < n then aup h n v q else h q) = h q
  by_cases e : q < n
  · rw [if_pos e, aup_o (by omega)]
  · rw [if_neg e]
/-- in which order the facts of two notes are compared -/
def bO : Nat → Nat
  | 0 => 0
  | 1 => 1
  | 2 => 3
  | 3 => 2
  | _ => 4
theorem bO_b (j : Nat) : bO j ≤ 4 := by
  unfold bO
  split <;> omega
def cmpC (c e : Nat) : Int := if c < e then -1 else if e < c then 1 else 0
theorem cmp_lt {c e : Nat} (hc : cOk c) (he : cOk e) : ∀ j, j < 5 → (∀ i, i < j → cFact c (bO i) = cFact e (bO i)) → cFact c (bO j) < cFact e (bO j) → c < e := by
  intro j hj hi hl
  unfold cOk at hc he
  obtain rfl | rfl | rfl | rfl | rfl : j = 0 ∨ j = 1 ∨ j = 2 ∨ j = 3 ∨ j = 4 := by omega
  · have hl' : cT c < cT e := hl
    unfold cT at hl'
    omega
  · have hl' : cS c < cS e := hl
    have a0 : cT c = cT e := hi 0 (by omega)
    unfold cT at a0
    unfold cS at hl'
    omega
  · have hl' : cP c < cP e := hl
    have a0 : cT c = cT e := hi 0 (by omega)
    unfold cT at a0
    have a1 : cS c = cS e := hi 1 (by omega)
    unfold cS at a1
    unfold cP at hl'
    omega
  · have hl' : cL c < cL e := hl
    have a0 : cT c = cT e := hi 0 (by omega)
    unfold cT at a0
    have a1 : cS c = cS e := hi 1 (by omega)
    unfold cS at a1
    have a2 : cP c = cP e := hi 2 (by omega)
    unfold cP at a2
    unfold cL at hl'
    omega
  · have hl' : cF c < cF e := hl
    have a0 : cT c = cT e := hi 0 (by omega)
    unfold cT at a0
    have a1 : cS c = cS e := hi 1 (by omega)
    unfold cS at a1
    have a2 : cP c = cP e := hi 2 (by omega)
    unfold cP at a2
    have a3 : cL c = cL e := hi 3 (by omega)
    unfold cL at a3
    unfold cF at hl'
    omega
theorem cmp_eq {c e : Nat} (hc : cOk c) (he : cOk e) (hi : ∀ i, i < 5 → cFact c (bO i) = cFact e (bO i)) : c = e := by
  unfold cOk at hc he
  have a0 : cT c = cT e := hi 0 (by omega)
  unfold cT at a0
  have a1 : cS c = cS e := hi 1 (by omega)
  unfold cS at a1
  have a2 : cP c = cP e := hi 2 (by omega)
  unfold cP at a2
  have a3 : cL c = cL e := hi 3 (by omega)
  unfold cL at a3
  have a4 : cF c = cF e := hi 4 (by omega)
  unfold cF at a4
  omega
section
variable {d : Nat} {h : aHf} {r : Nat × Nat × Nat × Nat} {y : Nat} {M : Md}
theorem s_mis {v a b : Int} (h1 : -2147483648 ≤ v) (h2 : v < 2147483648) (h3 : -2147483648 ≤ a) (h4 : a < 2147483648) (h5 : -2147483648 ≤ b) (h6 : b < 2147483648) : aE (d + 1) 184 [.int (iI v), .int (iI a), .int (iI b)] (h, r) = some (.inl (some (.int (bI (a ≤ v ∧ v ≤ b)))), (h, r)) := by
  simp (disch := omega) only [e184, r184_0, r184_1, r184_2, r184_5, r184_6, r184_7, r184_10, r184_11, r184_14, r184_15, iI_lt, iI_le, kl_n, kl_i, kl_r, kl_z, kl_l, kl_d, catS_0, catS_c, cat_i, cat_l, cat_d, cat_r, cat_n, kC_r, kC_x, Option.bind_some, Option.toList_some, Option.toList_none, List.cons_append, List.nil_append, gB0, gB1, gB2, gB3, gB4, rvB, nI_iI, i0, i1, l0_, wr_s, aup_s, and_true, true_and, and_self, eq_self, if_true, if_false, Nat.zero_le, Nat.reduceAdd, Nat.reduceLeDiff, gN_I, gN_L, gN_P, bI_0, bI_ok, z0, z1, Bool.true_eq, Bool.false_eq_true, not_true_eq_false, not_false_eq_true]
  by_cases q : a ≤ v ∧ v ≤ b
  · rw [← bI_T q, if_neg (by omega), if_neg (by omega)]
  · rw [← bI_F q]
    split
    · rfl
    · rw [if_pos (by omega)]
theorem s_mTrack {v : Int} (h1 : -2147483648 ≤ v) (h2 : v < 2147483648) : aE (d + 2) 185 [.int (iI v)] (h, r) = some (.inl (some (.int (bI (0 ≤ v ∧ v ≤ 5)))), (h, r)) := by
  simp (disch := omega) only [e185, r185_0, r185_1, r185_2, r185_3, r185_6, s_mis, kl_n, kl_i, kl_r, kl_z, kl_l, kl_d, catS_0, catS_c, cat_i, cat_l, cat_d, cat_r, cat_n, kC_r, kC_x, Option.bind_some, Option.toList_some, Option.toList_none, List.cons_append, List.nil_append, gB0, gB1, gB2, gB3, gB4, rvB, nI_iI, i0, i1, l0_, wr_s, aup_s, and_true, true_and, and_self, eq_self, if_true, if_false, Nat.zero_le, Nat.reduceAdd, Nat.reduceLeDiff, gN_I, gN_L, gN_P, bI_0, bI_ok, z0, z1, Bool.true_eq, Bool.false_eq_true, not_true_eq_false, not_false_eq_true]
theorem s_mRange {t v u : Int} (h5 : -2147483648 ≤ t) (h6 : t < 2147483648) (h1 : -2147483648 ≤ v) (h2 : v < 2147483648) (h3 : -2147483648 ≤ u) (h4 : u < 2147483648) : aE (d + 2) 186 [.int (iI t), .int (iI v), .int (iI u)] (h, r) = some (.inl (some (.int (bI (-1 ≤ t ∧ t ≤ 5 ∧ 0 ≤ v ∧ v < u ∧ u ≤ 9600)))), (h, r)) := by
  by_cases q1 : -1 ≤ t ∧ t ≤ 5
  · by_cases q2 : 0 ≤ v ∧ v ≤ 9599
    · by_cases q3 : v + 1 ≤ u ∧ u ≤ 9600
      · simp (disch := omega) only [e186, r186_0, r186_1, r186_2, r186_3, r186_6, r186_9, r186_10, r186_11, r186_14, r186_17, r186_20, r186_21, r186_22, r186_23, r186_24, r186_27, r186_30, r186_33, r186_34, r186_37, r186_38, s_mis, q1, q2, iI_add, q3, kl_n, kl_i, kl_r, kl_z, kl_l, kl_d, catS_0, catS_c, cat_i, cat_l, cat_d, cat_r, cat_n, kC_r, kC_x, Option.bind_some, Option.toList_some, Option.toList_none, List.cons_append, List.nil_append, gB0, gB1, gB2, gB3, gB4, rvB, nI_iI, i0, i1, l0_, wr_s, aup_s, and_true, true_and, and_self, eq_self, if_true, if_false, Nat.zero_le, Nat.reduceAdd, Nat.reduceLeDiff, gN_I, gN_L, gN_P, bI_0, bI_ok, z0, z1, Bool.true_eq, Bool.false_eq_true, not_true_eq_false, not_false_eq_true]
        exact fin_T (by omega)
      · simp (disch := omega) only [e186, r186_0, r186_1, r186_2, r186_3, r186_6, r186_9, r186_10, r186_11, r186_14, r186_17, r186_20, r186_21, r186_22, r186_23, r186_24, r186_27, r186_30, r186_33, r186_34, r186_37, r186_38, s_mis, q1, q2, iI_add, q3, kl_n, kl_i, kl_r, kl_z, kl_l, kl_d, catS_0, catS_c, cat_i, cat_l, cat_d, cat_r, cat_n, kC_r, kC_x, Option.bind_some, Option.toList_some, Option.toList_none, List.cons_append, List.nil_append, gB0, gB1, gB2, gB3, gB4, rvB, nI_iI, i0, i1, l0_, wr_s, aup_s, and_true, true_and, and_self, eq_self, if_true, if_false, Nat.zero_le, Nat.reduceAdd, Nat.reduceLeDiff, gN_I, gN_L, gN_P, bI_0, bI_ok, z0, z1, Bool.true_eq, Bool.false_eq_true, not_true_eq_false, not_false_eq_true]
        exact fin_F (by omega)
    · simp (disch := omega) only [e186, r186_0, r186_1, r186_2, r186_3, r186_6, r186_9, r186_10, r186_11, r186_14, r186_17, r186_20, r186_21, r186_22, r186_23, r186_24, r186_27, r186_30, r186_33, r186_34, r186_37, r186_38, s_mis, q1, q2, kl_n, kl_i, kl_r, kl_z, kl_l, kl_d, catS_0, catS_c, cat_i, cat_l, cat_d, cat_r, cat_n, kC_r, kC_x, Option.bind_some, Option.toList_some, Option.toList_none, List.cons_append, List.nil_append, gB0, gB1, gB2, gB3, gB4, rvB, nI_iI, i0, i1, l0_, wr_s, aup_s, and_true, true_and, and_self, eq_self, if_true, if_false, Nat.zero_le, Nat.reduceAdd, Nat.reduceLeDiff, gN_I, gN_L, gN_P, bI_0, bI_ok, z0, z1, Bool.true_eq, Bool.false_eq_true, not_true_eq_false, not_false_eq_true]
      exact fin_F (by omega)
  · simp (disch := omega) only [e186, r186_0, r186_1, r186_2, r186_3, r186_6, r186_9, r186_10, r186_11, r186_14, r186_17, r186_20, r186_21, r186_22, r186_23, r186_24, r186_27, r186_30, r186_33, r186_34, r186_37, r186_38, s_mis, q1, kl_n, kl_i, kl_r, kl_z, kl_l, kl_d, catS_0, catS_c, cat_i, cat_l, cat_d, cat_r, cat_n, kC_r, kC_x, Option.bind_some, Option.toList_some, Option.toList_none, List.cons_append, List.nil_append, gB0, gB1, gB2, gB3, gB4, rvB, nI_iI, i0, i1, l0_, wr_s, aup_s, and_true, true_and, and_self, eq_self, if_true, if_false, Nat.zero_le, Nat.reduceAdd, Nat.reduceLeDiff, gN_I, gN_L, gN_P, bI_0, bI_ok, z0, z1, Bool.true_eq, Bool.false_eq_true, not_true_eq_false, not_false_eq_true]
    exact fin_F (by omega)
theorem s_at {i j : Nat} (hk : 1 + 5 * i + j < 385) : aE (d + 1) 197 [.ref y, .int (iI i), .int (iI j)] (mdW h y M, r) = some (.inl (some (.int (M.2.1 (1 + 5 * i + j)))), (mdW h y M, r)) := by
  have e1 : 1 + 5 * (i : Int) + (j : Int) = ((1 + 5 * i + j : Nat) : Int) := by omega
  have gi : gI (some (aI .int 385 M.2.1)) (iI ((1 + 5 * i + j : Nat) : Int)) = some (M.2.1 (1 + 5 * i + j)) := by
    rw [gI_I (by omega) (by omega) (by omega), Int.toNat_natCast]
  simp only [e197, r197_0, r197_1, r197_4, r197_5, r197_6, r197_7, r197_8, r197_9, r197_10, r197_11, r197_12, md_0, md_1, iI_mul, iI_add, e1, gi, kl_n, kl_i, kl_r, kl_z, kl_l, kl_d, catS_0, catS_c, cat_i, cat_l, cat_d, cat_r, cat_n, kC_r, kC_x, Option.bind_some, Option.toList_some, Option.toList_none, List.cons_append, List.nil_append, gB0, gB1, gB2, gB3, gB4, rvB, nI_iI, i0, i1, l0_, wr_s, aup_s, and_true, true_and, and_self, eq_self, if_true, if_false, Nat.zero_le, Nat.reduceAdd, Nat.reduceLeDiff, gN_I, gN_L, gN_P, bI_0, bI_ok, z0, z1, Bool.true_eq, Bool.false_eq_true, not_true_eq_false, not_false_eq_true]
theorem s_setA {i j : Nat} {v : Int32} (hk : 1 + 5 * i + j < 385) : aE (d + 1) 198 [.ref y, .int (iI i), .int (iI j), .int v] (mdW h y M, r) = some (.inl none, (mdW h y (M.1, upd M.2.1 (1 + 5 * i + j) v, M.2.2), r)) := by
  have e1 : 1 + 5 * (i : Int) + (j : Int) = ((1 + 5 * i + j : Nat) : Int) := by omega
  have si : sI (some (aI .int 385 M.2.1)) (iI ((1 + 5 * i + j : Nat) : Int)) v = some (aI .int 385 (upd M.2.1 (1 + 5 * i + j) v)) := by
    rw [sI_I (by omega) (by omega) (by omega), Int.toNat_natCast]
  simp only [e198, r198_0, r198_1, r198_4, r198_5, r198_6, r198_7, r198_8, r198_9, r198_10, r198_11, r198_12, r198_13, md_0, md_1, iI_mul, iI_add, e1, si, md_a, kl_n, kl_i, kl_r, kl_z, kl_l, kl_d, catS_0, catS_c, cat_i, cat_l, cat_d, cat_r, cat_n, kC_r, kC_x, Option.bind_some, Option.toList_some, Option.toList_none, List.cons_append, List.nil_append, gB0, gB1, gB2, gB3, gB4, rvB, nI_iI, i0, i1, l0_, wr_s, aup_s, and_true, true_and, and_self, eq_self, if_true, if_false, Nat.zero_le, Nat.reduceAdd, Nat.reduceLeDiff, gN_I, gN_L, gN_P, bI_0, bI_ok, z0, z1, Bool.true_eq, Bool.false_eq_true, not_true_eq_false, not_false_eq_true]
end
