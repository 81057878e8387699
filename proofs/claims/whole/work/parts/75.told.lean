/-! ===== what a row of the reference tells ===== -/
def rFact (e : Nat) : Nat → Nat
  | 0 => e / 2097152
  | 1 => e / 16384 % 64
  | 2 => e / 128 % 128
  | _ => if e / 1048576 % 2 = 0 then 0 else e % 128
section
variable {d : Nat} {H : aH}
theorem r_told {e w : Nat} (he : e < 4398046511104) (hw : w ≤ 3) : aE (d + 1) 241 [.long (lI e), .int (iI w)] H = some (.inl (some (.int (iI (rFact e w)))), H) := by
  obtain ⟨h, r⟩ := H
  have f0 : ¬ ((1 : Int) = 0) := by omega
  match w, hw with
  | 0, _ =>
    have q : ((0 : Nat) : Int) = 0 := rfl
    simp (disch := omega) only [e241, r241_0, r241_1, r241_4, r241_5, r241_7, r241_8, r241_9, r241_10, r241_11, r241_12, r241_15, r241_16, r241_18, r241_19, r241_22, r241_23, r241_24, r241_25, r241_26, r241_27, r241_30, r241_31, r241_33, r241_34, r241_37, r241_38, r241_39, r241_40, r241_41, r241_43, r241_44, r241_45, r241_46, r241_47, r241_48, r241_51, r241_52, r241_55, r241_56, r241_59, r241_60, r241_61, iI_eq, q, i_l, lshs21, l_i, kl_n, kl_i, kl_r, kl_z, kl_l, kl_d, catS_0, catS_c, cat_i, cat_l, cat_d, cat_r, cat_n, kC_r, kC_x, Option.bind_some, Option.toList_some, Option.toList_none, List.cons_append, List.nil_append, gB0, gB1, gB2, gB3, gB4, rvB, nI_iI, i0, i1, l0_, wr_s, aup_s, and_true, true_and, and_self, eq_self, if_true, if_false, Nat.zero_le, Nat.reduceAdd, Nat.reduceLeDiff, gN_I, gN_L, gN_P, bI_0, bI_ok, z0, z1, Bool.true_eq, Bool.false_eq_true, not_true_eq_false, not_false_eq_true]
    rfl
  | 1, _ =>
    have q : ¬ ((1 : Nat) : Int) = 0 := by omega
    have q1 : ((1 : Nat) : Int) = 1 := rfl
    have n0 : (0 : Int) ≤ (e : Int) / 16384 := by omega
    simp (disch := omega) only [e241, r241_0, r241_1, r241_4, r241_5, r241_7, r241_8, r241_9, r241_10, r241_11, r241_12, r241_15, r241_16, r241_18, r241_19, r241_22, r241_23, r241_24, r241_25, r241_26, r241_27, r241_30, r241_31, r241_33, r241_34, r241_37, r241_38, r241_39, r241_40, r241_41, r241_43, r241_44, r241_45, r241_46, r241_47, r241_48, r241_51, r241_52, r241_55, r241_56, r241_59, r241_60, r241_61, iI_eq, q, q1, i_l, lshs14, land63 n0, l_i, kl_n, kl_i, kl_r, kl_z, kl_l, kl_d, catS_0, catS_c, cat_i, cat_l, cat_d, cat_r, cat_n, kC_r, kC_x, Option.bind_some, Option.toList_some, Option.toList_none, List.cons_append, List.nil_append, gB0, gB1, gB2, gB3, gB4, rvB, nI_iI, i0, i1, l0_, wr_s, aup_s, and_true, true_and, and_self, eq_self, if_true, if_false, Nat.zero_le, Nat.reduceAdd, Nat.reduceLeDiff, gN_I, gN_L, gN_P, bI_0, bI_ok, z0, z1, Bool.true_eq, Bool.false_eq_true, not_true_eq_false, not_false_eq_true]
    rfl
  | 2, _ =>
    have q : ¬ ((2 : Nat) : Int) = 0 := by omega
    have q1 : ¬ ((2 : Nat) : Int) = 1 := by omega
    have q2 : ((2 : Nat) : Int) = 2 := rfl
    have n0 : (0 : Int) ≤ (e : Int) / 128 := by omega
    simp (disch := omega) only [e241, r241_0, r241_1, r241_4, r241_5, r241_7, r241_8, r241_9, r241_10, r241_11, r241_12, r241_15, r241_16, r241_18, r241_19, r241_22, r241_23, r241_24, r241_25, r241_26, r241_27, r241_30, r241_31, r241_33, r241_34, r241_37, r241_38, r241_39, r241_40, r241_41, r241_43, r241_44, r241_45, r241_46, r241_47, r241_48, r241_51, r241_52, r241_55, r241_56, r241_59, r241_60, r241_61, iI_eq, q, q1, q2, i_l, lshs7, land127 n0, l_i, kl_n, kl_i, kl_r, kl_z, kl_l, kl_d, catS_0, catS_c, cat_i, cat_l, cat_d, cat_r, cat_n, kC_r, kC_x, Option.bind_some, Option.toList_some, Option.toList_none, List.cons_append, List.nil_append, gB0, gB1, gB2, gB3, gB4, rvB, nI_iI, i0, i1, l0_, wr_s, aup_s, and_true, true_and, and_self, eq_self, if_true, if_false, Nat.zero_le, Nat.reduceAdd, Nat.reduceLeDiff, gN_I, gN_L, gN_P, bI_0, bI_ok, z0, z1, Bool.true_eq, Bool.false_eq_true, not_true_eq_false, not_false_eq_true]
    rfl
  | 3, _ =>
    have q : ¬ ((3 : Nat) : Int) = 0 := by omega
    have q1 : ¬ ((3 : Nat) : Int) = 1 := by omega
    have q2 : ¬ ((3 : Nat) : Int) = 2 := by omega
    have n0 : (0 : Int) ≤ (e : Int) / 1048576 := by omega
    have n1 : (0 : Int) ≤ (e : Int) := by omega
    by_cases p : e / 1048576 % 2 = 0
    · have p1 : (e : Int) / 1048576 % 2 = 0 := by omega
      have ef : rFact e 3 = 0 := if_pos p
      rw [ef]
      simp (disch := omega) only [e241, r241_0, r241_1, r241_4, r241_5, r241_7, r241_8, r241_9, r241_10, r241_11, r241_12, r241_15, r241_16, r241_18, r241_19, r241_22, r241_23, r241_24, r241_25, r241_26, r241_27, r241_30, r241_31, r241_33, r241_34, r241_37, r241_38, r241_39, r241_40, r241_41, r241_43, r241_44, r241_45, r241_46, r241_47, r241_48, r241_51, r241_52, r241_55, r241_56, r241_59, r241_60, r241_61, iI_eq, q, q1, q2, i_l, lshs20, land1 n0, p1, lc_eq, lI_eq, kl_n, kl_i, kl_r, kl_z, kl_l, kl_d, catS_0, catS_c, cat_i, cat_l, cat_d, cat_r, cat_n, kC_r, kC_x, Option.bind_some, Option.toList_some, Option.toList_none, List.cons_append, List.nil_append, gB0, gB1, gB2, gB3, gB4, rvB, nI_iI, i0, i1, l0_, wr_s, aup_s, and_true, true_and, and_self, eq_self, if_true, if_false, Nat.zero_le, Nat.reduceAdd, Nat.reduceLeDiff, gN_I, gN_L, gN_P, bI_0, bI_ok, z0, z1, Bool.true_eq, Bool.false_eq_true, not_true_eq_false, not_false_eq_true]
      rfl
    · have p1 : ¬ (e : Int) / 1048576 % 2 = 0 := by omega
      have ef : rFact e 3 = e % 128 := if_neg p
      rw [ef]
      simp (disch := omega) only [e241, r241_0, r241_1, r241_4, r241_5, r241_7, r241_8, r241_9, r241_10, r241_11, r241_12, r241_15, r241_16, r241_18, r241_19, r241_22, r241_23, r241_24, r241_25, r241_26, r241_27, r241_30, r241_31, r241_33, r241_34, r241_37, r241_38, r241_39, r241_40, r241_41, r241_43, r241_44, r241_45, r241_46, r241_47, r241_48, r241_51, r241_52, r241_55, r241_56, r241_59, r241_60, r241_61, iI_eq, q, q1, q2, i_l, lshs20, land1 n0, p1, lc_eq, lI_eq, land127 n1, l_i, kl_n, kl_i, kl_r, kl_z, kl_l, kl_d, catS_0, catS_c, cat_i, cat_l, cat_d, cat_r, cat_n, kC_r, kC_x, Option.bind_some, Option.toList_some, Option.toList_none, List.cons_append, List.nil_append, gB0, gB1, gB2, gB3, gB4, rvB, nI_iI, i0, i1, l0_, wr_s, aup_s, and_true, true_and, and_self, eq_self, if_true, if_false, Nat.zero_le, Nat.reduceAdd, Nat.reduceLeDiff, gN_I, gN_L, gN_P, bI_0, bI_ok, z0, z1, Bool.true_eq, Bool.false_eq_true, not_true_eq_false, not_false_eq_true]
      rfl
end
