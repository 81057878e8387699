/-! ===== the library compares two rows of ints ===== -/
theorem ushr {a k : Nat} (ha : a < 2147483648) (hk : k < 32) : ((iI (a : Int)).toUInt32 >>> ((iI (k : Int)).toUInt32 &&& Int32.toUInt32 31)).toInt32 = iI ((a / 2 ^ k : Nat) : Int) := by
  have h1 : (iI (a : Int)).toUInt32.toNat = a := by
    show (iI (a : Int)).toBitVec.toNat = a
    rw [in_bv, BitVec.toNat_ofNat, Nat.mod_eq_of_lt (by omega)]
  have h2 : ((iI (k : Int)).toUInt32 &&& Int32.toUInt32 31).toNat = k := by
    rw [UInt32.toNat_and]
    show (iI (k : Int)).toBitVec.toNat &&& 31 = k
    rw [in_bv, BitVec.toNat_ofNat, Nat.mod_eq_of_lt (by omega)]
    exact Nat.and_two_pow_sub_one_of_lt_two_pow (n := 5) hk
  have h3 : ((iI (a : Int)).toUInt32 >>> ((iI (k : Int)).toUInt32 &&& Int32.toUInt32 31)).toNat = a / 2 ^ k := by
    rw [UInt32.toNat_shiftRight, h1, h2, Nat.mod_eq_of_lt hk, Nat.shiftRight_eq_div_pow]
  have h4 : a / 2 ^ k ≤ a := Nat.div_le_self _ _
  apply Int32.toBitVec.inj
  rw [in_bv]
  apply BitVec.eq_of_toNat_eq
  rw [BitVec.toNat_ofNat, Nat.mod_eq_of_lt (by omega)]
  exact h3
theorem and32 (y : Int32) : ∃ z : Nat, z ≤ 32 ∧ y &&& iI 32 = iI z := by
  have e : y.toBitVec &&& BitVec.twoPow 32 5 = if y.toBitVec.getLsbD 5 = true then BitVec.twoPow 32 5 else 0#32 := BitVec.and_twoPow _ _
  have e2 : (iI 32).toBitVec = BitVec.twoPow 32 5 := by decide
  by_cases q : y.toBitVec.getLsbD 5 = true
  · refine ⟨32, Nat.le_refl _, ?_⟩
    apply Int32.toBitVec.inj
    rw [Int32.toBitVec_and, e2, e, if_pos q]
    decide
  · refine ⟨0, by omega, ?_⟩
    apply Int32.toBitVec.inj
    rw [Int32.toBitVec_and, e2, e, if_neg q]
    decide
section
variable {d : Nat} {H : aH} {h : aHf} {r : Nat × Nat × Nat × Nat}
theorem nt_74 {a n : Nat} (ha : a ≤ 16) (hn : n ≤ 40) : ∃ z : Nat, z ≤ 64 ∧ L d 285 74 [some (.int (iI a)), some (.int (iI n))] [] (h, r) = some (.inl (some (.int (iI z))), (h, r)) := by
  have u := ushr (a := a) (k := 1) (by omega) (by omega)
  rw [show ((1 : Nat) : Int) = 1 from rfl, show a / 2 ^ 1 = a / 2 from rfl] at u
  have e : (n : Int) + ((a / 2 : Nat) : Int) = ((n + a / 2 : Nat) : Int) := by omega
  refine ⟨n + a / 2, by omega, ?_⟩
  simp (disch := omega) only [r285_74, r285_75, r285_76, r285_77, r285_78, r285_79, u, iI_add, e, kl_n, kl_i, kl_r, kl_z, kl_l, kl_d, catS_0, catS_c, cat_i, cat_l, cat_d, cat_r, cat_n, kC_r, kC_x, Option.bind_some, Option.toList_some, Option.toList_none, List.cons_append, List.nil_append, gB0, gB1, gB2, gB3, gB4, rvB, nI_iI, i0, i1, l0_, wr_s, aup_s, and_true, true_and, and_self, eq_self, if_true, if_false, Nat.zero_le, Nat.reduceAdd, Nat.reduceLeDiff, gN_I, gN_L, gN_P, bI_0, bI_ok, z0, z1, Bool.true_eq, Bool.false_eq_true, not_true_eq_false, not_false_eq_true]
theorem nt_62 {a n : Nat} (ha : a ≤ 16) (hn : n ≤ 38) : ∃ z : Nat, z ≤ 64 ∧ L d 285 62 [some (.int (iI a)), some (.int (iI n))] [] (h, r) = some (.inl (some (.int (iI z))), (h, r)) := by
  by_cases q : a ≤ 4
  · have c : (a : Int) ≤ 4 := by omega
    obtain ⟨z, z1, z2⟩ := nt_74 (d := d) (h := h) (r := r) (a := a) (n := n) (by omega) (by omega)
    refine ⟨z, z1, ?_⟩
    simp (disch := omega) only [r285_62, r285_63, r285_64, r285_67, r285_70, r285_71, r285_72, r285_73, iI_le, c, z2, kl_n, kl_i, kl_r, kl_z, kl_l, kl_d, catS_0, catS_c, cat_i, cat_l, cat_d, cat_r, cat_n, kC_r, kC_x, Option.bind_some, Option.toList_some, Option.toList_none, List.cons_append, List.nil_append, gB0, gB1, gB2, gB3, gB4, rvB, nI_iI, i0, i1, l0_, wr_s, aup_s, and_true, true_and, and_self, eq_self, if_true, if_false, Nat.zero_le, Nat.reduceAdd, Nat.reduceLeDiff, gN_I, gN_L, gN_P, bI_0, bI_ok, z0, z1, Bool.true_eq, Bool.false_eq_true, not_true_eq_false, not_false_eq_true]
  · have c : ¬ (a : Int) ≤ 4 := by omega
    have u := ushr (a := a) (k := 2) (by omega) (by omega)
    rw [show ((2 : Nat) : Int) = 2 from rfl, show a / 2 ^ 2 = a / 4 from rfl] at u
    have e : (n : Int) + 2 = ((n + 2 : Nat) : Int) := by omega
    obtain ⟨z, z1, z2⟩ := nt_74 (d := d) (h := h) (r := r) (a := a / 4) (n := n + 2) (by omega) (by omega)
    refine ⟨z, z1, ?_⟩
    simp (disch := omega) only [r285_62, r285_63, r285_64, r285_67, r285_70, r285_71, r285_72, r285_73, iI_le, c, u, iI_add, e, z2, kl_n, kl_i, kl_r, kl_z, kl_l, kl_d, catS_0, catS_c, cat_i, cat_l, cat_d, cat_r, cat_n, kC_r, kC_x, Option.bind_some, Option.toList_some, Option.toList_none, List.cons_append, List.nil_append, gB0, gB1, gB2, gB3, gB4, rvB, nI_iI, i0, i1, l0_, wr_s, aup_s, and_true, true_and, and_self, eq_self, if_true, if_false, Nat.zero_le, Nat.reduceAdd, Nat.reduceLeDiff, gN_I, gN_L, gN_P, bI_0, bI_ok, z0, z1, Bool.true_eq, Bool.false_eq_true, not_true_eq_false, not_false_eq_true]
theorem nt_49 {a n : Nat} (ha : a ≤ 256) (hn : n ≤ 30) : ∃ z : Nat, z ≤ 64 ∧ L d 285 49 [some (.int (iI a)), some (.int (iI n))] [] (h, r) = some (.inl (some (.int (iI z))), (h, r)) := by
  by_cases q : a ≤ 16
  · have c : (a : Int) ≤ 16 := by omega
    obtain ⟨z, z1, z2⟩ := nt_62 (d := d) (h := h) (r := r) (a := a) (n := n) (by omega) (by omega)
    refine ⟨z, z1, ?_⟩
    simp (disch := omega) only [r285_49, r285_50, r285_52, r285_55, r285_58, r285_59, r285_60, r285_61, iI_le, c, z2, kl_n, kl_i, kl_r, kl_z, kl_l, kl_d, catS_0, catS_c, cat_i, cat_l, cat_d, cat_r, cat_n, kC_r, kC_x, Option.bind_some, Option.toList_some, Option.toList_none, List.cons_append, List.nil_append, gB0, gB1, gB2, gB3, gB4, rvB, nI_iI, i0, i1, l0_, wr_s, aup_s, and_true, true_and, and_self, eq_self, if_true, if_false, Nat.zero_le, Nat.reduceAdd, Nat.reduceLeDiff, gN_I, gN_L, gN_P, bI_0, bI_ok, z0, z1, Bool.true_eq, Bool.false_eq_true, not_true_eq_false, not_false_eq_true]
  · have c : ¬ (a : Int) ≤ 16 := by omega
    have u := ushr (a := a) (k := 4) (by omega) (by omega)
    rw [show ((4 : Nat) : Int) = 4 from rfl, show a / 2 ^ 4 = a / 16 from rfl] at u
    have e : (n : Int) + 4 = ((n + 4 : Nat) : Int) := by omega
    obtain ⟨z, z1, z2⟩ := nt_62 (d := d) (h := h) (r := r) (a := a / 16) (n := n + 4) (by omega) (by omega)
    refine ⟨z, z1, ?_⟩
    simp (disch := omega) only [r285_49, r285_50, r285_52, r285_55, r285_58, r285_59, r285_60, r285_61, iI_le, c, u, iI_add, e, z2, kl_n, kl_i, kl_r, kl_z, kl_l, kl_d, catS_0, catS_c, cat_i, cat_l, cat_d, cat_r, cat_n, kC_r, kC_x, Option.bind_some, Option.toList_some, Option.toList_none, List.cons_append, List.nil_append, gB0, gB1, gB2, gB3, gB4, rvB, nI_iI, i0, i1, l0_, wr_s, aup_s, and_true, true_and, and_self, eq_self, if_true, if_false, Nat.zero_le, Nat.reduceAdd, Nat.reduceLeDiff, gN_I, gN_L, gN_P, bI_0, bI_ok, z0, z1, Bool.true_eq, Bool.false_eq_true, not_true_eq_false, not_false_eq_true]
theorem nt_34 {a n : Nat} (ha : a ≤ 65536) (hn : n ≤ 20) : ∃ z : Nat, z ≤ 64 ∧ L d 285 34 [some (.int (iI a)), some (.int (iI n))] [] (h, r) = some (.inl (some (.int (iI z))), (h, r)) := by
  by_cases q : a ≤ 256
  · have c : (a : Int) ≤ 256 := by omega
    obtain ⟨z, z1, z2⟩ := nt_49 (d := d) (h := h) (r := r) (a := a) (n := n) (by omega) (by omega)
    refine ⟨z, z1, ?_⟩
    simp (disch := omega) only [r285_34, r285_35, r285_38, r285_41, r285_44, r285_45, r285_47, r285_48, iI_le, c, z2, kl_n, kl_i, kl_r, kl_z, kl_l, kl_d, catS_0, catS_c, cat_i, cat_l, cat_d, cat_r, cat_n, kC_r, kC_x, Option.bind_some, Option.toList_some, Option.toList_none, List.cons_append, List.nil_append, gB0, gB1, gB2, gB3, gB4, rvB, nI_iI, i0, i1, l0_, wr_s, aup_s, and_true, true_and, and_self, eq_self, if_true, if_false, Nat.zero_le, Nat.reduceAdd, Nat.reduceLeDiff, gN_I, gN_L, gN_P, bI_0, bI_ok, z0, z1, Bool.true_eq, Bool.false_eq_true, not_true_eq_false, not_false_eq_true]
  · have c : ¬ (a : Int) ≤ 256 := by omega
    have u := ushr (a := a) (k := 8) (by omega) (by omega)
    rw [show ((8 : Nat) : Int) = 8 from rfl, show a / 2 ^ 8 = a / 256 from rfl] at u
    have e : (n : Int) + 8 = ((n + 8 : Nat) : Int) := by omega
    obtain ⟨z, z1, z2⟩ := nt_49 (d := d) (h := h) (r := r) (a := a / 256) (n := n + 8) (by omega) (by omega)
    refine ⟨z, z1, ?_⟩
    simp (disch := omega) only [r285_34, r285_35, r285_38, r285_41, r285_44, r285_45, r285_47, r285_48, iI_le, c, u, iI_add, e, z2, kl_n, kl_i, kl_r, kl_z, kl_l, kl_d, catS_0, catS_c, cat_i, cat_l, cat_d, cat_r, cat_n, kC_r, kC_x, Option.bind_some, Option.toList_some, Option.toList_none, List.cons_append, List.nil_append, gB0, gB1, gB2, gB3, gB4, rvB, nI_iI, i0, i1, l0_, wr_s, aup_s, and_true, true_and, and_self, eq_self, if_true, if_false, Nat.zero_le, Nat.reduceAdd, Nat.reduceLeDiff, gN_I, gN_L, gN_P, bI_0, bI_ok, z0, z1, Bool.true_eq, Bool.false_eq_true, not_true_eq_false, not_false_eq_true]
theorem s_ntzI (x : Int32) : ∃ z : Nat, z ≤ 64 ∧ aE (d + 1) 285 [.int x] (h, r) = some (.inl (some (.int (iI z))), (h, r)) := by
  have key : ∀ y : Int32, ∃ z : Nat, z ≤ 64 ∧ L d 285 8 [some (.int y), none] [] (h, r) = some (.inl (some (.int (iI z))), (h, r)) := by
    intro y
    by_cases q : iI 0 < y
    · have hr := iI_r y
      have hy := iI_of y
      have ht : 0 < y.toInt := by
        rw [← hy, iI_lt (by omega) (by omega) (by omega) (by omega)] at q
        exact q
      obtain ⟨a, ha⟩ : ∃ a : Nat, y.toInt = a := ⟨y.toInt.toNat, by omega⟩
      have ya : y = iI (a : Int) := by rw [← hy, ha]
      subst ya
      by_cases q2 : a ≤ 65536
      · have c : (a : Int) ≤ 65536 := by omega
        obtain ⟨z, z1, z2⟩ := nt_34 (d := d) (h := h) (r := r) (a := a) (n := 1) q2 (by omega)
        rw [show ((1 : Nat) : Int) = 1 from rfl] at z2
        refine ⟨z, z1, ?_⟩
        simp (disch := omega) only [r285_8, r285_9, r285_12, r285_13, r285_15, r285_16, r285_17, r285_18, r285_19, r285_20, r285_23, r285_26, r285_29, r285_30, r285_32, r285_33, q, iI_le, c, z2, kl_n, kl_i, kl_r, kl_z, kl_l, kl_d, catS_0, catS_c, cat_i, cat_l, cat_d, cat_r, cat_n, kC_r, kC_x, Option.bind_some, Option.toList_some, Option.toList_none, List.cons_append, List.nil_append, gB0, gB1, gB2, gB3, gB4, rvB, nI_iI, i0, i1, l0_, wr_s, aup_s, and_true, true_and, and_self, eq_self, if_true, if_false, Nat.zero_le, Nat.reduceAdd, Nat.reduceLeDiff, gN_I, gN_L, gN_P, bI_0, bI_ok, z0, z1, Bool.true_eq, Bool.false_eq_true, not_true_eq_false, not_false_eq_true]
      · have c : ¬ (a : Int) ≤ 65536 := by omega
        have u := ushr (a := a) (k := 16) (by omega) (by omega)
        rw [show ((16 : Nat) : Int) = 16 from rfl, show a / 2 ^ 16 = a / 65536 from rfl] at u
        obtain ⟨z, z1, z2⟩ := nt_34 (d := d) (h := h) (r := r) (a := a / 65536) (n := 17) (by omega) (by omega)
        rw [show ((17 : Nat) : Int) = 1 + 16 from rfl] at z2
        refine ⟨z, z1, ?_⟩
        simp (disch := omega) only [r285_8, r285_9, r285_12, r285_13, r285_15, r285_16, r285_17, r285_18, r285_19, r285_20, r285_23, r285_26, r285_29, r285_30, r285_32, r285_33, q, iI_le, c, u, iI_add, z2, kl_n, kl_i, kl_r, kl_z, kl_l, kl_d, catS_0, catS_c, cat_i, cat_l, cat_d, cat_r, cat_n, kC_r, kC_x, Option.bind_some, Option.toList_some, Option.toList_none, List.cons_append, List.nil_append, gB0, gB1, gB2, gB3, gB4, rvB, nI_iI, i0, i1, l0_, wr_s, aup_s, and_true, true_and, and_self, eq_self, if_true, if_false, Nat.zero_le, Nat.reduceAdd, Nat.reduceLeDiff, gN_I, gN_L, gN_P, bI_0, bI_ok, z0, z1, Bool.true_eq, Bool.false_eq_true, not_true_eq_false, not_false_eq_true]
    · obtain ⟨z, z1, z2⟩ := and32 y
      refine ⟨z, by omega, ?_⟩
      simp (disch := omega) only [r285_8, r285_9, r285_12, r285_13, r285_15, r285_16, r285_17, r285_18, r285_19, r285_20, r285_23, r285_26, r285_29, r285_30, r285_32, r285_33, q, z2, kl_n, kl_i, kl_r, kl_z, kl_l, kl_d, catS_0, catS_c, cat_i, cat_l, cat_d, cat_r, cat_n, kC_r, kC_x, Option.bind_some, Option.toList_some, Option.toList_none, List.cons_append, List.nil_append, gB0, gB1, gB2, gB3, gB4, rvB, nI_iI, i0, i1, l0_, wr_s, aup_s, and_true, true_and, and_self, eq_self, if_true, if_false, Nat.zero_le, Nat.reduceAdd, Nat.reduceLeDiff, gN_I, gN_L, gN_P, bI_0, bI_ok, z0, z1, Bool.true_eq, Bool.false_eq_true, not_true_eq_false, not_false_eq_true]
  obtain ⟨z, z1, z2⟩ := key ((x ^^^ iI (-1)) &&& (x - iI 1))
  refine ⟨z, z1, ?_⟩
  rw [e285]
  simp (disch := omega) only [r285_0, r285_1, r285_2, r285_3, r285_4, r285_5, r285_6, r285_7, z2, kl_n, kl_i, kl_r, kl_z, kl_l, kl_d, catS_0, catS_c, cat_i, cat_l, cat_d, cat_r, cat_n, kC_r, kC_x, Option.bind_some, Option.toList_some, Option.toList_none, List.cons_append, List.nil_append, gB0, gB1, gB2, gB3, gB4, rvB, nI_iI, i0, i1, l0_, wr_s, aup_s, and_true, true_and, and_self, eq_self, if_true, if_false, Nat.zero_le, Nat.reduceAdd, Nat.reduceLeDiff, gN_I, gN_L, gN_P, bI_0, bI_ok, z0, z1, Bool.true_eq, Bool.false_eq_true, not_true_eq_false, not_false_eq_true]
theorem s_ntzL (X : Int64) : ∃ z : Nat, z ≤ 100 ∧ aE (d + 2) 284 [.long X] (h, r) = some (.inl (some (.int (iI z))), (h, r)) := by
  by_cases q : X.toInt32 = iI 0
  · obtain ⟨z, z1, z2⟩ := s_ntzI (d := d) (h := h) (r := r) ((X.toUInt64 >>> ((iI 32).toInt64.toUInt64 &&& Int64.toUInt64 63)).toInt64).toInt32
    have e : (32 : Int) + z = ((32 + z : Nat) : Int) := by omega
    refine ⟨32 + z, by omega, ?_⟩
    rw [e284]
    simp (disch := omega) only [r284_0, r284_1, r284_2, r284_3, r284_4, r284_7, r284_9, r284_10, r284_12, r284_13, r284_14, r284_17, r284_18, r284_21, r284_22, r284_25, q, z2, iI_add, e, kl_n, kl_i, kl_r, kl_z, kl_l, kl_d, catS_0, catS_c, cat_i, cat_l, cat_d, cat_r, cat_n, kC_r, kC_x, Option.bind_some, Option.toList_some, Option.toList_none, List.cons_append, List.nil_append, gB0, gB1, gB2, gB3, gB4, rvB, nI_iI, i0, i1, l0_, wr_s, aup_s, and_true, true_and, and_self, eq_self, if_true, if_false, Nat.zero_le, Nat.reduceAdd, Nat.reduceLeDiff, gN_I, gN_L, gN_P, bI_0, bI_ok, z0, z1, Bool.true_eq, Bool.false_eq_true, not_true_eq_false, not_false_eq_true]
  · obtain ⟨z, z1, z2⟩ := s_ntzI (d := d) (h := h) (r := r) X.toInt32
    refine ⟨z, by omega, ?_⟩
    rw [e284]
    simp (disch := omega) only [r284_0, r284_1, r284_2, r284_3, r284_4, r284_7, r284_9, r284_10, r284_12, r284_13, r284_14, r284_17, r284_18, r284_21, r284_22, r284_25, q, z2, kl_n, kl_i, kl_r, kl_z, kl_l, kl_d, catS_0, catS_c, cat_i, cat_l, cat_d, cat_r, cat_n, kC_r, kC_x, Option.bind_some, Option.toList_some, Option.toList_none, List.cons_append, List.nil_append, gB0, gB1, gB2, gB3, gB4, rvB, nI_iI, i0, i1, l0_, wr_s, aup_s, and_true, true_and, and_self, eq_self, if_true, if_false, Nat.zero_le, Nat.reduceAdd, Nat.reduceLeDiff, gN_I, gN_L, gN_P, bI_0, bI_ok, z0, z1, Bool.true_eq, Bool.false_eq_true, not_true_eq_false, not_false_eq_true]
end
theorem lJ_n (a b : Int32) : (lJ a b).toUInt64.toNat = a.toUInt32.toNat + b.toUInt32.toNat * 4294967296 := by
  have ha := a.toUInt32.toNat_lt
  have hb := b.toUInt32.toNat_lt
  show (UInt64.ofNat (a.toUInt32.toNat + b.toUInt32.toNat * 4294967296)).toNat = _
  exact UInt64.toNat_ofNat_of_lt' (show _ < 18446744073709551616 by omega)
theorem i32_n {a b : Int32} (h : a.toUInt32.toNat = b.toUInt32.toNat) : a = b := by
  apply Int32.toBitVec.inj
  exact BitVec.eq_of_toNat_eq h
theorem lJ_inj {a b a' b' : Int32} : lJ a b = lJ a' b' ↔ a = a' ∧ b = b' := by
  constructor
  · intro h
    have e : (lJ a b).toUInt64.toNat = (lJ a' b').toUInt64.toNat := by rw [h]
    rw [lJ_n, lJ_n] at e
    have h1 := a.toUInt32.toNat_lt
    have h2 := a'.toUInt32.toNat_lt
    exact ⟨i32_n (by omega), i32_n (by omega)⟩
  · rintro ⟨rfl, rfl⟩
    rfl
theorem lshm3 (a : Int) : lI a <<< (lI 3 &&& 63) = lI (a * 8) := by
  have e := lshl a 3 (by decide)
  rw [show (iI ((3 : Nat) : Int)).toInt64 = lI 3 by decide] at e
  exact e
section
variable {d n w : Nat} {g : Nat × Nat} {h : aHf} {p q : Nat} {f f' : Nat → Int32}
theorem vm_loop (hp : h p = some (aI .int 385 f)) (hq : h q = some (aI .int 385 f')) : ∀ (m k : Nat), k + m = 192 → (∀ i, i < 2 * k → f i = f' i) → ∀ l10 l11 l12 l13 l14 l15 l16 l17 l18 : Option Value,
    ((∀ i, i < 384 → f i = f' i) ∧ L (d + 2) 282 11 [some (.ref p), some (.long (lI 16)), none, some (.ref q), some (.long (lI 16)), none, some (.int (iI 385)), some (.int (iI 2)), some (.int (iI 1)), some (.int (iI k)), l10, l11, l12, l13, l14, l15, l16, l17, l18] [] (h, n, w, g) = some (.inl (some (.int (iI (-2)))), (h, n, w, g))) ∨
    (¬ (∀ i, i < 384 → f i = f' i) ∧ ∃ z : Nat, z ≤ 1000 ∧ L (d + 2) 282 11 [some (.ref p), some (.long (lI 16)), none, some (.ref q), some (.long (lI 16)), none, some (.int (iI 385)), some (.int (iI 2)), some (.int (iI 1)), some (.int (iI k)), l10, l11, l12, l13, l14, l15, l16, l17, l18] [] (h, n, w, g) = some (.inl (some (.int (iI z))), (h, n, w, g))) := by
  have s1 : iI 385 >>> (iI 1 &&& 31) = iI 192 := by decide
  intro m
  induction m with
  | zero =>
    intro k hk hs l10 l11 l12 l13 l14 l15 l16 l17 l18
    obtain rfl : k = 192 := by omega
    have c1 : (192 : Int) ≤ ((192 : Nat) : Int) := by omega
    have e1 : iI (385 - ((192 : Nat) : Int) * 2) ^^^ iI (-1) = iI (-2) := by decide
    refine Or.inl ⟨hs, ?_⟩
    rw [r282_11]
    simp (disch := omega) only [r282_13, r282_15, r282_17, r282_18, s1, iI_le, c1, kl_n, kl_i, kl_r, kl_z, kl_l, kl_d, catS_0, catS_c, cat_i, cat_l, cat_d, cat_r, cat_n, kC_r, kC_x, Option.bind_some, Option.toList_some, Option.toList_none, List.cons_append, List.nil_append, gB0, gB1, gB2, gB3, gB4, rvB, nI_iI, i0, i1, l0_, wr_s, aup_s, and_true, true_and, and_self, eq_self, if_true, if_false, Nat.zero_le, Nat.reduceAdd, Nat.reduceLeDiff, gN_I, gN_L, gN_P, bI_0, bI_ok, z0, z1, Bool.true_eq, Bool.false_eq_true, not_true_eq_false, not_false_eq_true]
    simp (disch := omega) only [r282_122, r282_124, r282_126, r282_128, r282_129, r282_130, r282_132, r282_134, r282_137, r282_263, r282_265, r282_266, r282_267, ishl1, iI_sub, iI_le, Int.le_refl, e1, kl_n, kl_i, kl_r, kl_z, kl_l, kl_d, catS_0, catS_c, cat_i, cat_l, cat_d, cat_r, cat_n, kC_r, kC_x, Option.bind_some, Option.toList_some, Option.toList_none, List.cons_append, List.nil_append, gB0, gB1, gB2, gB3, gB4, rvB, nI_iI, i0, i1, l0_, wr_s, aup_s, and_true, true_and, and_self, eq_self, if_true, if_false, Nat.zero_le, Nat.reduceAdd, Nat.reduceLeDiff, gN_I, gN_L, gN_P, bI_0, bI_ok, z0, z1, Bool.true_eq, Bool.false_eq_true, not_true_eq_false, not_false_eq_true]
  | succ m ih =>
    intro k hk hs l10 l11 l12 l13 l14 l15 l16 l17 l18
    have c1 : ¬ (192 : Int) ≤ (k : Int) := by omega
    have g1 := r_getLong (d := d + 1) (n := n) (w := w) (g := g) (k := k) hp (by omega) (by omega)
    have g2 := r_getLong (d := d + 1) (n := n) (w := w) (g := g) (k := k) hq (by omega) (by omega)
    have e1 : (16 : Int) + (k : Int) * 8 = 16 + 8 * (k : Int) := by omega
    have e2 : (k : Int) + 1 = ((k + 1 : Nat) : Int) := by omega
    have e3 : (3 : Int) + 2 = 5 := by omega
    by_cases qq : f (2 * k) = f' (2 * k) ∧ f (2 * k + 1) = f' (2 * k + 1)
    · have q2 : (lJ (f (2 * k)) (f (2 * k + 1)) = lJ (f' (2 * k)) (f' (2 * k + 1))) = True := eq_true (lJ_inj.mpr qq)
      have st : L (d + 2) 282 11 [some (.ref p), some (.long (lI 16)), none, some (.ref q), some (.long (lI 16)), none, some (.int (iI 385)), some (.int (iI 2)), some (.int (iI 1)), some (.int (iI k)), l10, l11, l12, l13, l14, l15, l16, l17, l18] [] (h, n, w, g) =
          L (d + 2) 282 11 [some (.ref p), some (.long (lI 16)), none, some (.ref q), some (.long (lI 16)), none, some (.int (iI 385)), some (.int (iI 2)), some (.int (iI 1)), some (.int (iI (k + 1 : Nat))), some (.long (lI ((k : Int) * 8))), none, some (.long (lJ (f (2 * k)) (f (2 * k + 1)))), none, some (.long (lJ (f' (2 * k)) (f' (2 * k + 1)))), none, l16, l17, l18] [] (h, n, w, g) := by
        rw [r282_11]
        simp (disch := omega) only [r282_13, r282_15, r282_17, r282_18, r282_21, r282_23, r282_24, r282_27, r282_28, r282_30, r282_33, r282_34, r282_35, r282_37, r282_38, r282_41, r282_43, r282_46, r282_47, r282_49, r282_51, r282_52, r282_55, r282_57, r282_59, r282_61, r282_62, s1, iI_le, c1, i_l, lshm3, lI_add, e1, beq_self_eq_true, g1, g2, lc_eq, q2, kl_n, kl_i, kl_r, kl_z, kl_l, kl_d, catS_0, catS_c, cat_i, cat_l, cat_d, cat_r, cat_n, kC_r, kC_x, Option.bind_some, Option.toList_some, Option.toList_none, List.cons_append, List.nil_append, gB0, gB1, gB2, gB3, gB4, rvB, nI_iI, i0, i1, l0_, wr_s, aup_s, and_true, true_and, and_self, eq_self, if_true, if_false, Nat.zero_le, Nat.reduceAdd, Nat.reduceLeDiff, gN_I, gN_L, gN_P, bI_0, bI_ok, z0, z1, Bool.true_eq, Bool.false_eq_true, not_true_eq_false, not_false_eq_true]
        simp (disch := omega) only [r282_116, r282_119, iI_add, e2, kl_n, kl_i, kl_r, kl_z, kl_l, kl_d, catS_0, catS_c, cat_i, cat_l, cat_d, cat_r, cat_n, kC_r, kC_x, Option.bind_some, Option.toList_some, Option.toList_none, List.cons_append, List.nil_append, gB0, gB1, gB2, gB3, gB4, rvB, nI_iI, i0, i1, l0_, wr_s, aup_s, and_true, true_and, and_self, eq_self, if_true, if_false, Nat.zero_le, Nat.reduceAdd, Nat.reduceLeDiff, gN_I, gN_L, gN_P, bI_0, bI_ok, z0, z1, Bool.true_eq, Bool.false_eq_true, not_true_eq_false, not_false_eq_true]
      rw [st]
      exact ih (k + 1) (by omega) (fun i hi => by
        by_cases z : i < 2 * k
        · exact hs i z
        · by_cases z2 : i = 2 * k
          · rw [z2]
            exact qq.1
          · rw [show i = 2 * k + 1 by omega]
            exact qq.2) _ _ _ _ _ _ _ _ _
    · have q2 : (lJ (f (2 * k)) (f (2 * k + 1)) = lJ (f' (2 * k)) (f' (2 * k + 1))) = False := eq_false (fun z => qq (lJ_inj.mp z))
      obtain ⟨z, z1, z2⟩ := s_ntzL (d := d) (h := h) (r := (n, w, g)) (lJ (f (2 * k)) (f (2 * k + 1)) ^^^ lJ (f' (2 * k)) (f' (2 * k + 1)))
      have e4 : (k : Int) * 2 + ((z / 32 : Nat) : Int) = ((k * 2 + z / 32 : Nat) : Int) := by omega
      refine Or.inr ⟨fun z => qq ⟨z _ (by omega), z _ (by omega)⟩, k * 2 + z / 32, by omega, ?_⟩
      rw [r282_11]
      simp (disch := omega) only [r282_13, r282_15, r282_17, r282_18, r282_21, r282_23, r282_24, r282_27, r282_28, r282_30, r282_33, r282_34, r282_35, r282_37, r282_38, r282_41, r282_43, r282_46, r282_47, r282_49, r282_51, r282_52, r282_55, r282_57, r282_59, r282_61, r282_62, s1, iI_le, c1, i_l, lshm3, lI_add, e1, beq_self_eq_true, g1, g2, lc_eq, q2, kl_n, kl_i, kl_r, kl_z, kl_l, kl_d, catS_0, catS_c, cat_i, cat_l, cat_d, cat_r, cat_n, kC_r, kC_x, Option.bind_some, Option.toList_some, Option.toList_none, List.cons_append, List.nil_append, gB0, gB1, gB2, gB3, gB4, rvB, nI_iI, i0, i1, l0_, wr_s, aup_s, and_true, true_and, and_self, eq_self, if_true, if_false, Nat.zero_le, Nat.reduceAdd, Nat.reduceLeDiff, gN_I, gN_L, gN_P, bI_0, bI_ok, z0, z1, Bool.true_eq, Bool.false_eq_true, not_true_eq_false, not_false_eq_true]
      simp (disch := omega) only [r282_65, r282_67, r282_69, r282_70, r282_72, r282_75, r282_93, r282_95, r282_98, r282_101, r282_103, r282_104, r282_105, r282_107, r282_109, r282_111, r282_112, r282_114, r282_115, iI_eq, z2, iI_add, e3, shr5, ishl1, e4, kl_n, kl_i, kl_r, kl_z, kl_l, kl_d, catS_0, catS_c, cat_i, cat_l, cat_d, cat_r, cat_n, kC_r, kC_x, Option.bind_some, Option.toList_some, Option.toList_none, List.cons_append, List.nil_append, gB0, gB1, gB2, gB3, gB4, rvB, nI_iI, i0, i1, l0_, wr_s, aup_s, and_true, true_and, and_self, eq_self, if_true, if_false, Nat.zero_le, Nat.reduceAdd, Nat.reduceLeDiff, gN_I, gN_L, gN_P, bI_0, bI_ok, z0, z1, Bool.true_eq, Bool.false_eq_true, not_true_eq_false, not_false_eq_true]
theorem s_equals (hpq : p ≠ q) (hp : h p = some (aI .int 385 f)) (hq : h q = some (aI .int 385 f')) [Decidable (∀ i, i < 385 → f i = f' i)] : aE (d + 5) 265 [.ref p, .ref q] (h, n, w, g) = some (.inl (some (.int (bI (∀ i, i < 385 → f i = f' i)))), (h, n, w, g)) := by
  have j1 : (h p).isSome = true := by rw [hp]; rfl
  have j2 : (h q).isSome = true := by rw [hq]; rfl
  have n1 : gN (h p) = some 385 := by rw [hp]; rfl
  have n2 : gN (h q) = some 385 := by rw [hq]; rfl
  have s1 : iI 385 >>> (iI 1 &&& 31) = iI 192 := by decide
  have a0 : gI (h p) (iI 0) = some (f 0) := by rw [hp]; exact gI_0 (by omega)
  have b0 : gI (h q) (iI 0) = some (f' 0) := by rw [hq]; exact gI_0 (by omega)
  have a1 : gI (h p) (iI ((384 : Nat) : Int)) = some (f 384) := by rw [hp]; exact gI_N (by omega) (by omega)
  have b1 : gI (h q) (iI ((384 : Nat) : Int)) = some (f' 384) := by rw [hq]; exact gI_N (by omega) (by omega)
  -- the mismatch
  have mm : ∃ Z : Int32, ((∀ i, i < 385 → f i = f' i) ∧ Z = iI (-1) ∨ ¬ (∀ i, i < 385 → f i = f' i) ∧ ∃ z : Nat, z ≤ 1000 ∧ Z = iI z) ∧ aE (d + 4) 281 [.ref p, .ref q, .int (iI 385)] (h, n, w, g) = some (.inl (some (.int Z)), (h, n, w, g)) := by
    by_cases q0 : f 0 = f' 0
    · have q0' : (f 0 = f' 0) = True := eq_true q0
      have vmE : ∀ V, L (d + 2) 282 11 [some (.ref p), some (.long (lI 16)), none, some (.ref q), some (.long (lI 16)), none, some (.int (iI 385)), some (.int (iI 2)), some (.int (iI 1)), some (.int (iI 0)), none, none, none, none, none, none, none, none, none] [] (h, n, w, g) = V → aE (d + 3) 282 [.ref p, .long (lI 16), .ref q, .long (lI 16), .int (iI 385), .int (iI 2)] (h, n, w, g) = V := by
        intro V hV
        have e3 : (3 : Int) - 2 = 1 := by omega
        rw [e282]
        simp (disch := omega) only [r282_0, r282_3, r282_5, r282_6, r282_8, r282_9, iI_sub, e3, hV, kl_n, kl_i, kl_r, kl_z, kl_l, kl_d, catS_0, catS_c, cat_i, cat_l, cat_d, cat_r, cat_n, kC_r, kC_x, Option.bind_some, Option.toList_some, Option.toList_none, List.cons_append, List.nil_append, gB0, gB1, gB2, gB3, gB4, rvB, nI_iI, i0, i1, l0_, wr_s, aup_s, and_true, true_and, and_self, eq_self, if_true, if_false, Nat.zero_le, Nat.reduceAdd, Nat.reduceLeDiff, gN_I, gN_L, gN_P, bI_0, bI_ok, z0, z1, Bool.true_eq, Bool.false_eq_true, not_true_eq_false, not_false_eq_true]
      rcases vm_loop (d := d) (n := n) (w := w) (g := g) hp hq 192 0 (by omega) (fun i hi => by omega) none none none none none none none none none with ⟨v1, v2⟩ | ⟨v1, z, z1, v2⟩
      · rw [show ((0 : Nat) : Int) = 0 from rfl] at v2
        have v3 := vmE _ v2
        have e4 : iI 385 - (iI (-2) ^^^ iI (-1)) = iI ((384 : Nat) : Int) := by decide
        have c1 : ¬ ((385 : Int) ≤ 1) := by omega
        have c2 : (-2 : Int) < 0 := by omega
        have c3 : ¬ ((385 : Int) ≤ ((384 : Nat) : Int)) := by omega
        by_cases q1 : f 384 = f' 384
        · have q1' : (f 384 = f' 384) = True := eq_true q1
          have e5 : ((384 : Nat) : Int) + 1 = 385 := by omega
          refine ⟨iI (-1), Or.inl ⟨fun i hi => ?_, rfl⟩, ?_⟩
          · by_cases z : i = 384
            · rw [z, q1]
            · exact v1 i (by omega)
          · rw [e281]
            simp (disch := omega) only [r281_0, r281_1, r281_2, r281_3, r281_4, r281_7, r281_8, r281_9, r281_10, r281_11, r281_12, r281_13, r281_16, r281_17, r281_18, r281_19, r281_22, r281_23, r281_24, r281_27, r281_28, r281_29, r281_32, r281_35, r281_36, r281_37, r281_40, r281_41, r281_42, r281_43, r281_44, r281_45, r281_46, r281_47, iI_le, c1, a0, b0, q0', i_l, v3, iI_lt, c2, e4, kl_n, kl_i, kl_r, kl_z, kl_l, kl_d, catS_0, catS_c, cat_i, cat_l, cat_d, cat_r, cat_n, kC_r, kC_x, Option.bind_some, Option.toList_some, Option.toList_none, List.cons_append, List.nil_append, gB0, gB1, gB2, gB3, gB4, rvB, nI_iI, i0, i1, l0_, wr_s, aup_s, and_true, true_and, and_self, eq_self, if_true, if_false, Nat.zero_le, Nat.reduceAdd, Nat.reduceLeDiff, gN_I, gN_L, gN_P, bI_0, bI_ok, z0, z1, Bool.true_eq, Bool.false_eq_true, not_true_eq_false, not_false_eq_true]
            rw [r281_48]
            simp (disch := omega) only [r281_49, r281_50, r281_53, r281_54, r281_55, r281_56, r281_57, r281_58, r281_59, r281_62, r281_63, r281_64, r281_67, r281_70, r281_71, iI_le, c3, a1, b1, q1', iI_add, e5, kl_n, kl_i, kl_r, kl_z, kl_l, kl_d, catS_0, catS_c, cat_i, cat_l, cat_d, cat_r, cat_n, kC_r, kC_x, Option.bind_some, Option.toList_some, Option.toList_none, List.cons_append, List.nil_append, gB0, gB1, gB2, gB3, gB4, rvB, nI_iI, i0, i1, l0_, wr_s, aup_s, and_true, true_and, and_self, eq_self, if_true, if_false, Nat.zero_le, Nat.reduceAdd, Nat.reduceLeDiff, gN_I, gN_L, gN_P, bI_0, bI_ok, z0, z1, Bool.true_eq, Bool.false_eq_true, not_true_eq_false, not_false_eq_true]
            rw [r281_48]
            simp (disch := omega) only [r281_49, r281_50, r281_53, r281_54, r281_55, r281_56, r281_57, r281_58, r281_59, r281_62, r281_63, r281_64, r281_67, r281_70, r281_71, iI_le, Int.le_refl, kl_n, kl_i, kl_r, kl_z, kl_l, kl_d, catS_0, catS_c, cat_i, cat_l, cat_d, cat_r, cat_n, kC_r, kC_x, Option.bind_some, Option.toList_some, Option.toList_none, List.cons_append, List.nil_append, gB0, gB1, gB2, gB3, gB4, rvB, nI_iI, i0, i1, l0_, wr_s, aup_s, and_true, true_and, and_self, eq_self, if_true, if_false, Nat.zero_le, Nat.reduceAdd, Nat.reduceLeDiff, gN_I, gN_L, gN_P, bI_0, bI_ok, z0, z1, Bool.true_eq, Bool.false_eq_true, not_true_eq_false, not_false_eq_true]
        · have q1' : (f 384 = f' 384) = False := eq_false q1
          refine ⟨iI ((384 : Nat) : Int), Or.inr ⟨fun z => q1 (z 384 (by omega)), 384, by omega, rfl⟩, ?_⟩
          rw [e281]
          simp (disch := omega) only [r281_0, r281_1, r281_2, r281_3, r281_4, r281_7, r281_8, r281_9, r281_10, r281_11, r281_12, r281_13, r281_16, r281_17, r281_18, r281_19, r281_22, r281_23, r281_24, r281_27, r281_28, r281_29, r281_32, r281_35, r281_36, r281_37, r281_40, r281_41, r281_42, r281_43, r281_44, r281_45, r281_46, r281_47, iI_le, c1, a0, b0, q0', i_l, v3, iI_lt, c2, e4, kl_n, kl_i, kl_r, kl_z, kl_l, kl_d, catS_0, catS_c, cat_i, cat_l, cat_d, cat_r, cat_n, kC_r, kC_x, Option.bind_some, Option.toList_some, Option.toList_none, List.cons_append, List.nil_append, gB0, gB1, gB2, gB3, gB4, rvB, nI_iI, i0, i1, l0_, wr_s, aup_s, and_true, true_and, and_self, eq_self, if_true, if_false, Nat.zero_le, Nat.reduceAdd, Nat.reduceLeDiff, gN_I, gN_L, gN_P, bI_0, bI_ok, z0, z1, Bool.true_eq, Bool.false_eq_true, not_true_eq_false, not_false_eq_true]
          rw [r281_48]
          simp (disch := omega) only [r281_49, r281_50, r281_53, r281_54, r281_55, r281_56, r281_57, r281_58, r281_59, r281_62, r281_63, r281_64, r281_67, r281_70, r281_71, iI_le, c3, a1, b1, q1', kl_n, kl_i, kl_r, kl_z, kl_l, kl_d, catS_0, catS_c, cat_i, cat_l, cat_d, cat_r, cat_n, kC_r, kC_x, Option.bind_some, Option.toList_some, Option.toList_none, List.cons_append, List.nil_append, gB0, gB1, gB2, gB3, gB4, rvB, nI_iI, i0, i1, l0_, wr_s, aup_s, and_true, true_and, and_self, eq_self, if_true, if_false, Nat.zero_le, Nat.reduceAdd, Nat.reduceLeDiff, gN_I, gN_L, gN_P, bI_0, bI_ok, z0, z1, Bool.true_eq, Bool.false_eq_true, not_true_eq_false, not_false_eq_true]
      · rw [show ((0 : Nat) : Int) = 0 from rfl] at v2
        have v3 := vmE _ v2
        have c1 : ¬ ((385 : Int) ≤ 1) := by omega
        have c2 : ¬ ((z : Int) < 0) := by omega
        refine ⟨iI z, Or.inr ⟨fun y => v1 (fun i hi => y i (by omega)), z, z1, rfl⟩, ?_⟩
        rw [e281]
        simp (disch := omega) only [r281_0, r281_1, r281_2, r281_3, r281_4, r281_7, r281_8, r281_9, r281_10, r281_11, r281_12, r281_13, r281_16, r281_17, r281_18, r281_19, r281_22, r281_23, r281_24, r281_27, r281_28, r281_29, r281_32, r281_35, r281_36, r281_37, r281_40, r281_41, r281_42, r281_43, r281_44, r281_45, r281_46, r281_47, iI_le, c1, a0, b0, q0', i_l, v3, iI_lt, c2, kl_n, kl_i, kl_r, kl_z, kl_l, kl_d, catS_0, catS_c, cat_i, cat_l, cat_d, cat_r, cat_n, kC_r, kC_x, Option.bind_some, Option.toList_some, Option.toList_none, List.cons_append, List.nil_append, gB0, gB1, gB2, gB3, gB4, rvB, nI_iI, i0, i1, l0_, wr_s, aup_s, and_true, true_and, and_self, eq_self, if_true, if_false, Nat.zero_le, Nat.reduceAdd, Nat.reduceLeDiff, gN_I, gN_L, gN_P, bI_0, bI_ok, z0, z1, Bool.true_eq, Bool.false_eq_true, not_true_eq_false, not_false_eq_true]
    · have q0' : (f 0 = f' 0) = False := eq_false q0
      have c1 : ¬ ((385 : Int) ≤ 1) := by omega
      refine ⟨iI ((0 : Nat) : Int), Or.inr ⟨fun z => q0 (z 0 (by omega)), 0, by omega, rfl⟩, ?_⟩
      rw [e281]
      simp (disch := omega) only [r281_0, r281_1, r281_2, r281_3, r281_4, r281_7, r281_8, r281_9, r281_10, r281_11, r281_12, r281_13, r281_16, r281_17, r281_18, r281_19, r281_22, r281_23, r281_24, r281_27, r281_28, r281_29, r281_32, r281_35, r281_36, r281_37, r281_40, r281_41, r281_42, r281_43, r281_44, r281_45, r281_46, r281_47, iI_le, c1, a0, b0, q0', kl_n, kl_i, kl_r, kl_z, kl_l, kl_d, catS_0, catS_c, cat_i, cat_l, cat_d, cat_r, cat_n, kC_r, kC_x, Option.bind_some, Option.toList_some, Option.toList_none, List.cons_append, List.nil_append, gB0, gB1, gB2, gB3, gB4, rvB, nI_iI, i0, i1, l0_, wr_s, aup_s, and_true, true_and, and_self, eq_self, if_true, if_false, Nat.zero_le, Nat.reduceAdd, Nat.reduceLeDiff, gN_I, gN_L, gN_P, bI_0, bI_ok, z0, z1, Bool.true_eq, Bool.false_eq_true, not_true_eq_false, not_false_eq_true]
      rfl
  obtain ⟨Z, hZ, hl⟩ := mm
  have e385 : ((385 : Nat) : Int) = 385 := rfl
  have c3 : ((385 : Int) = 385) = True := eq_self _
  rcases hZ with ⟨h1, rfl⟩ | ⟨h1, z, z1, rfl⟩
  · have c2 : ¬ (0 : Int) ≤ -1 := by omega
    rw [← bI_T h1, e265]
    simp (disch := omega) only [r265_0, r265_1, r265_2, r265_5, r265_6, r265_7, r265_8, r265_8n, r265_11, r265_12, r265_12n, r265_15, r265_16, r265_17, r265_18, r265_19, r265_20, r265_21, r265_22, r265_23, r265_26, r265_27, r265_28, r265_29, r265_30, r265_31, r265_34, r265_37, r265_38, r265_41, r265_42, j1, j2, hpq, n1, n2, e385, hl, iI_le, c2, kl_n, kl_i, kl_r, kl_z, kl_l, kl_d, catS_0, catS_c, cat_i, cat_l, cat_d, cat_r, cat_n, kC_r, kC_x, Option.bind_some, Option.toList_some, Option.toList_none, List.cons_append, List.nil_append, gB0, gB1, gB2, gB3, gB4, rvB, nI_iI, i0, i1, l0_, wr_s, aup_s, and_true, true_and, and_self, eq_self, if_true, if_false, Nat.zero_le, Nat.reduceAdd, Nat.reduceLeDiff, gN_I, gN_L, gN_P, bI_0, bI_ok, z0, z1, Bool.true_eq, Bool.false_eq_true, not_true_eq_false, not_false_eq_true]
  · have c2 : (0 : Int) ≤ (z : Int) := by omega
    rw [← bI_F h1, e265]
    simp (disch := omega) only [r265_0, r265_1, r265_2, r265_5, r265_6, r265_7, r265_8, r265_8n, r265_11, r265_12, r265_12n, r265_15, r265_16, r265_17, r265_18, r265_19, r265_20, r265_21, r265_22, r265_23, r265_26, r265_27, r265_28, r265_29, r265_30, r265_31, r265_34, r265_37, r265_38, r265_41, r265_42, j1, j2, hpq, n1, n2, e385, hl, iI_le, c2, kl_n, kl_i, kl_r, kl_z, kl_l, kl_d, catS_0, catS_c, cat_i, cat_l, cat_d, cat_r, cat_n, kC_r, kC_x, Option.bind_some, Option.toList_some, Option.toList_none, List.cons_append, List.nil_append, gB0, gB1, gB2, gB3, gB4, rvB, nI_iI, i0, i1, l0_, wr_s, aup_s, and_true, true_and, and_self, eq_self, if_true, if_false, Nat.zero_le, Nat.reduceAdd, Nat.reduceLeDiff, gN_I, gN_L, gN_P, bI_0, bI_ok, z0, z1, Bool.true_eq, Bool.false_eq_true, not_true_eq_false, not_false_eq_true]
end
