/-! ===== the reference: chords, clashes ===== -/
section
variable {d : Nat} {h : aHf} {r : Nat × Nat × Nat × Nat} {y : Nat} {M : Md} {m : Nat} {F : Nat → Nat} {X : Nat → Int32}
theorem rch_loop {t : Nat} (hA : M.2.1 = nB m F X) (hm : m ≤ 60) (hF : ∀ i, cOk (F i)) (ht : t ≤ 9599) : ∀ s i : Nat, i + s = m → L (d + 2) 242 26 [some (.ref y), some (.int (iI t)), some (.int (chF F t i)), some (.int (iI i))] [] (mdW h y M, r) = some (.inl (some (.int (chF F t m))), (mdW h y M, r)) := by
  have g0 : gI (some (aI .int 385 (nB m F X))) (iI 0) = some (iI m) := gI_0 (by omega)
  intro s
  induction s with
  | zero =>
    intro i hi
    obtain rfl : i = m := by omega
    have c1 : (i : Int) ≤ i := by omega
    rw [r242_26]
    simp (disch := omega) only [r242_0, r242_1, r242_2, r242_5, r242_6, r242_7, r242_10, r242_13, r242_16, r242_17, r242_18, r242_21, r242_22, r242_23, r242_24, r242_25, r242_27, r242_28, r242_31, r242_32, r242_33, r242_36, r242_37, r242_38, r242_39, r242_40, r242_43, r242_44, r242_45, r242_48, r242_49, r242_50, r242_53, r242_56, r242_57, r242_58, r242_59, r242_60, r242_61, r242_64, r242_66, r242_67, r242_68, r242_69, r242_70, r242_73, r242_76, r242_77, md_0, md_1, hA, g0, iI_le, c1, kl_n, kl_i, kl_r, kl_z, kl_l, kl_d, catS_0, catS_c, cat_i, cat_l, cat_d, cat_r, cat_n, kC_r, kC_x, Option.bind_some, Option.toList_some, Option.toList_none, List.cons_append, List.nil_append, gB0, gB1, gB2, gB3, gB4, rvB, nI_iI, i0, i1, l0_, wr_s, aup_s, and_true, true_and, and_self, eq_self, if_true, if_false, Nat.zero_le, Nat.reduceAdd, Nat.reduceLeDiff, gN_I, gN_L, gN_P, bI_0, bI_ok, z0, z1, Bool.true_eq, Bool.false_eq_true, not_true_eq_false, not_false_eq_true]
  | succ s ih =>
    intro i hi
    have c1 : ¬ (m : Int) ≤ i := by omega
    have e1 : (i : Int) + 1 = ((i + 1 : Nat) : Int) := by omega
    have a1 := cS_lt (F i)
    have a2 := cL_lt (F i)
    have a3 := cP_lt (F i)
    have f1 : ¬ iI 12 = iI 0 := by decide
    have f2 : (cP (F i) : Int) / 12 = ((cP (F i) / 12 : Nat) : Int) := rfl
    have f3 : (cP (F i) : Int) - ((cP (F i) / 12 : Nat) : Int) * 12 = ((cP (F i) % 12 : Nat) : Int) := by omega
    have h9 := ih (i + 1) (by omega)
    rw [r242_26]
    by_cases q : cS (F i) ≤ t ∧ t < cS (F i) + cL (F i)
    · have q1 : (cS (F i) : Int) ≤ t ∧ (t : Int) ≤ (cS (F i) : Int) + (cL (F i) : Int) - 1 := by omega
      rw [show chF F t (i + 1) = chF F t i ||| (iI 1 <<< (iI (cP (F i) % 12 : Nat) &&& 31)) from if_pos q] at h9
      simp (disch := omega) only [r242_0, r242_1, r242_2, r242_5, r242_6, r242_7, r242_10, r242_13, r242_16, r242_17, r242_18, r242_21, r242_22, r242_23, r242_24, r242_25, r242_27, r242_28, r242_31, r242_32, r242_33, r242_36, r242_37, r242_38, r242_39, r242_40, r242_43, r242_44, r242_45, r242_48, r242_49, r242_50, r242_53, r242_56, r242_57, r242_58, r242_59, r242_60, r242_61, r242_64, r242_66, r242_67, r242_68, r242_69, r242_70, r242_73, r242_76, r242_77, md_0, md_1, hA, g0, iI_le, c1, r_1 hA hm (show i < m by omega), r_end hA hm (show i < m by omega), iI_sub, s_mis, q1, r_3 hA hm (show i < m by omega), f1, iI_div, f2, iI_mul, f3, iI_add, e1, h9, kl_n, kl_i, kl_r, kl_z, kl_l, kl_d, catS_0, catS_c, cat_i, cat_l, cat_d, cat_r, cat_n, kC_r, kC_x, Option.bind_some, Option.toList_some, Option.toList_none, List.cons_append, List.nil_append, gB0, gB1, gB2, gB3, gB4, rvB, nI_iI, i0, i1, l0_, wr_s, aup_s, and_true, true_and, and_self, eq_self, if_true, if_false, Nat.zero_le, Nat.reduceAdd, Nat.reduceLeDiff, gN_I, gN_L, gN_P, bI_0, bI_ok, z0, z1, Bool.true_eq, Bool.false_eq_true, not_true_eq_false, not_false_eq_true]
    · have q1 : ¬ ((cS (F i) : Int) ≤ t ∧ (t : Int) ≤ (cS (F i) : Int) + (cL (F i) : Int) - 1) := by omega
      rw [show chF F t (i + 1) = chF F t i from if_neg q] at h9
      simp (disch := omega) only [r242_0, r242_1, r242_2, r242_5, r242_6, r242_7, r242_10, r242_13, r242_16, r242_17, r242_18, r242_21, r242_22, r242_23, r242_24, r242_25, r242_27, r242_28, r242_31, r242_32, r242_33, r242_36, r242_37, r242_38, r242_39, r242_40, r242_43, r242_44, r242_45, r242_48, r242_49, r242_50, r242_53, r242_56, r242_57, r242_58, r242_59, r242_60, r242_61, r242_64, r242_66, r242_67, r242_68, r242_69, r242_70, r242_73, r242_76, r242_77, md_0, md_1, hA, g0, iI_le, c1, r_1 hA hm (show i < m by omega), r_end hA hm (show i < m by omega), iI_sub, s_mis, q1, iI_add, e1, h9, kl_n, kl_i, kl_r, kl_z, kl_l, kl_d, catS_0, catS_c, cat_i, cat_l, cat_d, cat_r, cat_n, kC_r, kC_x, Option.bind_some, Option.toList_some, Option.toList_none, List.cons_append, List.nil_append, gB0, gB1, gB2, gB3, gB4, rvB, nI_iI, i0, i1, l0_, wr_s, aup_s, and_true, true_and, and_self, eq_self, if_true, if_false, Nat.zero_le, Nat.reduceAdd, Nat.reduceLeDiff, gN_I, gN_L, gN_P, bI_0, bI_ok, z0, z1, Bool.true_eq, Bool.false_eq_true, not_true_eq_false, not_false_eq_true]
theorem r_chordAt {t : Nat} (hA : M.2.1 = nB m F X) (hm : m ≤ 60) (hF : ∀ i, cOk (F i)) (ht : t ≤ 9599) : aE (d + 3) 242 [.ref y, .int (iI t)] (mdW h y M, r) = some (.inl (some (.int (chF F t m))), (mdW h y ((iI 0, M.1.2), M.2), r)) := by
  have hl := rch_loop (d := d) (h := h) (r := r) (y := y) (M := ((iI 0, M.1.2), M.2)) (X := X) hA hm hF ht m 0 (by omega)
  rw [show chF F t 0 = iI 0 from rfl, show ((0 : Nat) : Int) = 0 from rfl] at hl
  have q1 : (0 : Int) ≤ t ∧ (t : Int) ≤ 9599 := by omega
  simp (disch := omega) only [e242, r242_0, r242_1, r242_2, r242_5, r242_6, r242_7, r242_10, r242_13, r242_22, r242_23, r242_24, r242_25, md_0, sB0i, md_th, s_mis, q1, hl, kl_n, kl_i, kl_r, kl_z, kl_l, kl_d, catS_0, catS_c, cat_i, cat_l, cat_d, cat_r, cat_n, kC_r, kC_x, Option.bind_some, Option.toList_some, Option.toList_none, List.cons_append, List.nil_append, gB0, gB1, gB2, gB3, gB4, rvB, nI_iI, i0, i1, l0_, wr_s, aup_s, and_true, true_and, and_self, eq_self, if_true, if_false, Nat.zero_le, Nat.reduceAdd, Nat.reduceLeDiff, gN_I, gN_L, gN_P, bI_0, bI_ok, z0, z1, Bool.true_eq, Bool.false_eq_true, not_true_eq_false, not_false_eq_true]
theorem r_chordAt_1 {t : Int} (b1 : -2147483648 ≤ t ∧ t < 2147483648) (hc : ¬ (0 ≤ t ∧ t ≤ 9599)) : aE (d + 3) 242 [.ref y, .int (iI t)] (mdW h y M, r) = some (.inl (some (.int (iI 0))), (mdW h y ((iI 1, M.1.2), M.2), r)) := by
  simp (disch := omega) only [e242, r242_0, r242_1, r242_2, r242_5, r242_6, r242_7, r242_10, r242_13, r242_16, r242_17, r242_18, r242_21, md_0, sB0i, md_th, s_mis, hc, r_refuse, kl_n, kl_i, kl_r, kl_z, kl_l, kl_d, catS_0, catS_c, cat_i, cat_l, cat_d, cat_r, cat_n, kC_r, kC_x, Option.bind_some, Option.toList_some, Option.toList_none, List.cons_append, List.nil_append, gB0, gB1, gB2, gB3, gB4, rvB, nI_iI, i0, i1, l0_, wr_s, aup_s, and_true, true_and, and_self, eq_self, if_true, if_false, Nat.zero_le, Nat.reduceAdd, Nat.reduceLeDiff, gN_I, gN_L, gN_P, bI_0, bI_ok, z0, z1, Bool.true_eq, Bool.false_eq_true, not_true_eq_false, not_false_eq_true]
/-! clashes -/
def rcl (F : Nat → Nat) (k : Nat) : Nat := sm (cl1 F k) k
theorem rcl_in {k : Nat} (hA : M.2.1 = nB m F X) (hm : m ≤ 60) (hF : ∀ i, cOk (F i)) (hk : k < m) : ∀ q j s : Nat, j + q = k → L (d + 2) 243 16 [some (.ref y), some (.int (iI (s + sm (cl1 F k) j : Nat))), some (.int (iI k)), some (.int (iI j))] [] (mdW h y M, r) =
    L (d + 2) 243 4 [some (.ref y), some (.int (iI (s + rcl F k : Nat))), some (.int (iI (k + 1 : Nat))), some (.int (iI k))] [] (mdW h y M, r) := by
  have e0 : (k : Int) + 1 = ((k + 1 : Nat) : Int) := by omega
  intro q
  induction q with
  | zero =>
    intro j s hj
    obtain rfl : j = k := by omega
    have c1 : (j : Int) ≤ j := by omega
    rw [r243_16]
    simp (disch := omega) only [r243_17, r243_18, r243_21, r243_22, r243_23, r243_24, r243_25, r243_28, r243_29, r243_30, r243_31, r243_34, r243_37, r243_38, r243_39, r243_40, r243_43, r243_44, r243_45, r243_46, r243_49, r243_52, r243_53, r243_54, r243_55, r243_58, r243_59, r243_60, r243_63, r243_66, r243_67, r243_68, r243_69, r243_72, r243_73, r243_74, r243_77, r243_80, r243_81, r243_84, r243_85, r243_86, r243_87, r243_90, r243_93, r243_96, r243_99, iI_le, c1, iI_add, e0, kl_n, kl_i, kl_r, kl_z, kl_l, kl_d, catS_0, catS_c, cat_i, cat_l, cat_d, cat_r, cat_n, kC_r, kC_x, Option.bind_some, Option.toList_some, Option.toList_none, List.cons_append, List.nil_append, gB0, gB1, gB2, gB3, gB4, rvB, nI_iI, i0, i1, l0_, wr_s, aup_s, and_true, true_and, and_self, eq_self, if_true, if_false, Nat.zero_le, Nat.reduceAdd, Nat.reduceLeDiff, gN_I, gN_L, gN_P, bI_0, bI_ok, z0, z1, Bool.true_eq, Bool.false_eq_true, not_true_eq_false, not_false_eq_true]
    rfl
  | succ q ih =>
    intro j s hj
    have c1 : ¬ (k : Int) ≤ j := by omega
    have e1 : (j : Int) + 1 = ((j + 1 : Nat) : Int) := by omega
    have h9 := ih (j + 1) s (by omega)
    have b1 := cS_lt (F k)
    have b2 := cL_lt (F k)
    have b3 := cS_lt (F j)
    have b4 := cL_lt (F j)
    have b5 := cP_lt (F j)
    have b6 := cP_lt (F k)
    have es : ((s + sm (cl1 F k) j : Nat) : Int) + (cl1 F k j : Int) = ((s + sm (cl1 F k) (j + 1) : Nat) : Int) := by
      show _ = ((s + (sm (cl1 F k) j + cl1 F k j) : Nat) : Int)
      omega
    have t1 := cT_lt (hF k)
    have t2 := cT_lt (hF j)
    have hj2 : j < m := by omega
    have z0 : ((s + sm (cl1 F k) j : Nat) : Int) + 0 = ((s + sm (cl1 F k) j : Nat) : Int) := Int.add_zero _
    rw [r243_16]
    by_cases q1 : cT (F k) = cT (F j)
    · have p1 : (cT (F k) : Int) = (cT (F j) : Int) := by omega
      by_cases q2 : cP (F k) = cP (F j)
      · have p2 : (cP (F k) : Int) = (cP (F j) : Int) := by omega
        by_cases q3 : cS (F k) < cS (F j) + cL (F j)
        · have p3 : ¬ (cS (F j) : Int) + (cL (F j) : Int) ≤ (cS (F k) : Int) := by omega
          by_cases q4 : cS (F j) < cS (F k) + cL (F k)
          · have p4 : ¬ (cS (F k) : Int) + (cL (F k) : Int) ≤ (cS (F j) : Int) := by omega
            have ec : cl1 F k j = 1 := if_pos ⟨q1, q2, q3, q4⟩
            rw [ec, show ((1 : Nat) : Int) = 1 from rfl] at es
            simp (disch := omega) only [r243_17, r243_18, r243_21, r243_22, r243_23, r243_24, r243_25, r243_28, r243_29, r243_30, r243_31, r243_34, r243_37, r243_38, r243_39, r243_40, r243_43, r243_44, r243_45, r243_46, r243_49, r243_52, r243_53, r243_54, r243_55, r243_58, r243_59, r243_60, r243_63, r243_66, r243_67, r243_68, r243_69, r243_72, r243_73, r243_74, r243_77, r243_80, r243_81, r243_84, r243_85, r243_86, r243_87, r243_90, r243_93, r243_96, r243_99, md_0, iI_le, c1, r_0 hA hm hk, r_0 hA hm hj2, iI_eq, p1, r_3 hA hm hk, r_3 hA hm hj2, p2, r_1 hA hm hk, r_1 hA hm hj2, r_end hA hm hk, r_end hA hm hj2, p3, p4, iI_add, es, e1, h9, kl_n, kl_i, kl_r, kl_z, kl_l, kl_d, catS_0, catS_c, cat_i, cat_l, cat_d, cat_r, cat_n, kC_r, kC_x, Option.bind_some, Option.toList_some, Option.toList_none, List.cons_append, List.nil_append, gB0, gB1, gB2, gB3, gB4, rvB, nI_iI, i0, i1, l0_, wr_s, aup_s, and_true, true_and, and_self, eq_self, if_true, if_false, Nat.zero_le, Nat.reduceAdd, Nat.reduceLeDiff, gN_I, gN_L, gN_P, bI_0, bI_ok, z0, z1, Bool.true_eq, Bool.false_eq_true, not_true_eq_false, not_false_eq_true]
          · have p4 : (cS (F k) : Int) + (cL (F k) : Int) ≤ (cS (F j) : Int) := by omega
            have ec : cl1 F k j = 0 := if_neg (fun z => q4 z.2.2.2)
            rw [ec, show ((0 : Nat) : Int) = 0 from rfl] at es
            simp (disch := omega) only [r243_17, r243_18, r243_21, r243_22, r243_23, r243_24, r243_25, r243_28, r243_29, r243_30, r243_31, r243_34, r243_37, r243_38, r243_39, r243_40, r243_43, r243_44, r243_45, r243_46, r243_49, r243_52, r243_53, r243_54, r243_55, r243_58, r243_59, r243_60, r243_63, r243_66, r243_67, r243_68, r243_69, r243_72, r243_73, r243_74, r243_77, r243_80, r243_81, r243_84, r243_85, r243_86, r243_87, r243_90, r243_93, r243_96, r243_99, md_0, iI_le, c1, r_0 hA hm hk, r_0 hA hm hj2, iI_eq, p1, r_3 hA hm hk, r_3 hA hm hj2, p2, r_1 hA hm hk, r_1 hA hm hj2, r_end hA hm hk, r_end hA hm hj2, p3, p4, iI_add, es, e1, h9, kl_n, kl_i, kl_r, kl_z, kl_l, kl_d, catS_0, catS_c, cat_i, cat_l, cat_d, cat_r, cat_n, kC_r, kC_x, Option.bind_some, Option.toList_some, Option.toList_none, List.cons_append, List.nil_append, gB0, gB1, gB2, gB3, gB4, rvB, nI_iI, i0, i1, l0_, wr_s, aup_s, and_true, true_and, and_self, eq_self, if_true, if_false, Nat.zero_le, Nat.reduceAdd, Nat.reduceLeDiff, gN_I, gN_L, gN_P, bI_0, bI_ok, z0, z1, Bool.true_eq, Bool.false_eq_true, not_true_eq_false, not_false_eq_true]
        · have p3 : (cS (F j) : Int) + (cL (F j) : Int) ≤ (cS (F k) : Int) := by omega
          have ec : cl1 F k j = 0 := if_neg (fun z => q3 z.2.2.1)
          rw [ec, show ((0 : Nat) : Int) = 0 from rfl] at es
          simp (disch := omega) only [r243_17, r243_18, r243_21, r243_22, r243_23, r243_24, r243_25, r243_28, r243_29, r243_30, r243_31, r243_34, r243_37, r243_38, r243_39, r243_40, r243_43, r243_44, r243_45, r243_46, r243_49, r243_52, r243_53, r243_54, r243_55, r243_58, r243_59, r243_60, r243_63, r243_66, r243_67, r243_68, r243_69, r243_72, r243_73, r243_74, r243_77, r243_80, r243_81, r243_84, r243_85, r243_86, r243_87, r243_90, r243_93, r243_96, r243_99, md_0, iI_le, c1, r_0 hA hm hk, r_0 hA hm hj2, iI_eq, p1, r_3 hA hm hk, r_3 hA hm hj2, p2, r_1 hA hm hk, r_end hA hm hj2, p3, iI_add, es, e1, h9, kl_n, kl_i, kl_r, kl_z, kl_l, kl_d, catS_0, catS_c, cat_i, cat_l, cat_d, cat_r, cat_n, kC_r, kC_x, Option.bind_some, Option.toList_some, Option.toList_none, List.cons_append, List.nil_append, gB0, gB1, gB2, gB3, gB4, rvB, nI_iI, i0, i1, l0_, wr_s, aup_s, and_true, true_and, and_self, eq_self, if_true, if_false, Nat.zero_le, Nat.reduceAdd, Nat.reduceLeDiff, gN_I, gN_L, gN_P, bI_0, bI_ok, z0, z1, Bool.true_eq, Bool.false_eq_true, not_true_eq_false, not_false_eq_true]
      · have p2 : ¬ (cP (F k) : Int) = (cP (F j) : Int) := by omega
        have ec : cl1 F k j = 0 := if_neg (fun z => q2 z.2.1)
        rw [ec, show ((0 : Nat) : Int) = 0 from rfl] at es
        simp (disch := omega) only [r243_17, r243_18, r243_21, r243_22, r243_23, r243_24, r243_25, r243_28, r243_29, r243_30, r243_31, r243_34, r243_37, r243_38, r243_39, r243_40, r243_43, r243_44, r243_45, r243_46, r243_49, r243_52, r243_53, r243_54, r243_55, r243_58, r243_59, r243_60, r243_63, r243_66, r243_67, r243_68, r243_69, r243_72, r243_73, r243_74, r243_77, r243_80, r243_81, r243_84, r243_85, r243_86, r243_87, r243_90, r243_93, r243_96, r243_99, md_0, iI_le, c1, r_0 hA hm hk, r_0 hA hm hj2, iI_eq, p1, r_3 hA hm hk, r_3 hA hm hj2, p2, iI_add, es, e1, h9, kl_n, kl_i, kl_r, kl_z, kl_l, kl_d, catS_0, catS_c, cat_i, cat_l, cat_d, cat_r, cat_n, kC_r, kC_x, Option.bind_some, Option.toList_some, Option.toList_none, List.cons_append, List.nil_append, gB0, gB1, gB2, gB3, gB4, rvB, nI_iI, i0, i1, l0_, wr_s, aup_s, and_true, true_and, and_self, eq_self, if_true, if_false, Nat.zero_le, Nat.reduceAdd, Nat.reduceLeDiff, gN_I, gN_L, gN_P, bI_0, bI_ok, z0, z1, Bool.true_eq, Bool.false_eq_true, not_true_eq_false, not_false_eq_true]
    · have p1 : ¬ (cT (F k) : Int) = (cT (F j) : Int) := by omega
      have ec : cl1 F k j = 0 := if_neg (fun z => q1 z.1)
      rw [ec, show ((0 : Nat) : Int) = 0 from rfl] at es
      simp (disch := omega) only [r243_17, r243_18, r243_21, r243_22, r243_23, r243_24, r243_25, r243_28, r243_29, r243_30, r243_31, r243_34, r243_37, r243_38, r243_39, r243_40, r243_43, r243_44, r243_45, r243_46, r243_49, r243_52, r243_53, r243_54, r243_55, r243_58, r243_59, r243_60, r243_63, r243_66, r243_67, r243_68, r243_69, r243_72, r243_73, r243_74, r243_77, r243_80, r243_81, r243_84, r243_85, r243_86, r243_87, r243_90, r243_93, r243_96, r243_99, md_0, iI_le, c1, r_0 hA hm hk, r_0 hA hm hj2, iI_eq, p1, iI_add, es, e1, h9, kl_n, kl_i, kl_r, kl_z, kl_l, kl_d, catS_0, catS_c, cat_i, cat_l, cat_d, cat_r, cat_n, kC_r, kC_x, Option.bind_some, Option.toList_some, Option.toList_none, List.cons_append, List.nil_append, gB0, gB1, gB2, gB3, gB4, rvB, nI_iI, i0, i1, l0_, wr_s, aup_s, and_true, true_and, and_self, eq_self, if_true, if_false, Nat.zero_le, Nat.reduceAdd, Nat.reduceLeDiff, gN_I, gN_L, gN_P, bI_0, bI_ok, z0, z1, Bool.true_eq, Bool.false_eq_true, not_true_eq_false, not_false_eq_true]
theorem rcl_out (hA : M.2.1 = nB m F X) (hm : m ≤ 60) (hF : ∀ i, cOk (F i)) : ∀ q k : Nat, k + q = m → ∀ l3 : Option Value, L (d + 2) 243 4 [some (.ref y), some (.int (iI (sm (rcl F) k : Nat))), some (.int (iI k)), l3] [] (mdW h y M, r) = some (.inl (some (.int (iI (sm (rcl F) m : Nat)))), (mdW h y M, r)) := by
  have g0 : gI (some (aI .int 385 (nB m F X))) (iI 0) = some (iI m) := gI_0 (by omega)
  intro q
  induction q with
  | zero =>
    intro k hk l3
    obtain rfl : k = m := by omega
    have c1 : (k : Int) ≤ k := by omega
    rw [r243_4]
    simp (disch := omega) only [r243_0, r243_1, r243_2, r243_3, r243_5, r243_6, r243_9, r243_10, r243_11, r243_14, r243_15, r243_17, r243_18, r243_21, r243_22, r243_23, r243_24, r243_25, r243_28, r243_29, r243_30, r243_31, r243_34, r243_37, r243_38, r243_39, r243_40, r243_43, r243_44, r243_45, r243_46, r243_49, r243_52, r243_53, r243_54, r243_55, r243_58, r243_59, r243_60, r243_63, r243_66, r243_67, r243_68, r243_69, r243_72, r243_73, r243_74, r243_77, r243_80, r243_81, r243_84, r243_85, r243_86, r243_87, r243_90, r243_93, r243_96, r243_99, r243_100, md_0, md_1, hA, g0, iI_le, c1, kl_n, kl_i, kl_r, kl_z, kl_l, kl_d, catS_0, catS_c, cat_i, cat_l, cat_d, cat_r, cat_n, kC_r, kC_x, Option.bind_some, Option.toList_some, Option.toList_none, List.cons_append, List.nil_append, gB0, gB1, gB2, gB3, gB4, rvB, nI_iI, i0, i1, l0_, wr_s, aup_s, and_true, true_and, and_self, eq_self, if_true, if_false, Nat.zero_le, Nat.reduceAdd, Nat.reduceLeDiff, gN_I, gN_L, gN_P, bI_0, bI_ok, z0, z1, Bool.true_eq, Bool.false_eq_true, not_true_eq_false, not_false_eq_true]
  | succ q ih =>
    intro k hk l3
    have c1 : ¬ (m : Int) ≤ k := by omega
    have h9 := fun l3 => ih (k + 1) (by omega) l3
    have hin := rcl_in (d := d) (h := h) (r := r) (y := y) hA hm hF (show k < m by omega) k 0 (sm (rcl F) k) (by omega)
    rw [show sm (rcl F) k + sm (cl1 F k) 0 = sm (rcl F) k from rfl, show ((0 : Nat) : Int) = 0 from rfl] at hin
    rw [r243_4]
    simp (disch := omega) only [r243_5, r243_6, r243_9, r243_10, r243_11, r243_14, r243_15, md_0, md_1, hA, g0, iI_le, c1, hin, kl_n, kl_i, kl_r, kl_z, kl_l, kl_d, catS_0, catS_c, cat_i, cat_l, cat_d, cat_r, cat_n, kC_r, kC_x, Option.bind_some, Option.toList_some, Option.toList_none, List.cons_append, List.nil_append, gB0, gB1, gB2, gB3, gB4, rvB, nI_iI, i0, i1, l0_, wr_s, aup_s, and_true, true_and, and_self, eq_self, if_true, if_false, Nat.zero_le, Nat.reduceAdd, Nat.reduceLeDiff, gN_I, gN_L, gN_P, bI_0, bI_ok, z0, z1, Bool.true_eq, Bool.false_eq_true, not_true_eq_false, not_false_eq_true]
    exact h9 _
theorem sm_add (f g : Nat → Nat) : ∀ k, sm (fun i => f i + g i) k = sm f k + sm g k
  | 0 => rfl
  | k + 1 => by
    show sm (fun i => f i + g i) k + (f k + g k) = sm f k + f k + (sm g k + g k)
    rw [sm_add f g k]
    omega
theorem cl1_sym (F : Nat → Nat) (i j : Nat) : cl1 F i j = cl1 F j i := by
  unfold cl1
  by_cases q : clash (F i) (F j)
  · rw [if_pos q, if_pos ⟨q.1.symm, q.2.1.symm, q.2.2.2, q.2.2.1⟩]
  · rw [if_neg q, if_neg (fun z => q ⟨z.1.symm, z.2.1.symm, z.2.2.2, z.2.2.1⟩)]
/-- pairs counted from the lower and from the higher are as many -/
theorem cl_swap (F : Nat → Nat) : ∀ n, sm (cl2 F n) n = sm (rcl F) n
  | 0 => rfl
  | n + 1 => by
    show sm (cl2 F (n + 1)) n + cl2 F (n + 1) n = sm (rcl F) n + rcl F n
    have e1 : sm (cl2 F (n + 1)) n = sm (cl2 F n) n + rcl F n := by
      rw [sm_congr (f := cl2 F (n + 1)) (g := fun i => cl2 F n i + cl1 F n i) (k := n) (fun i hi => by
        show cl2 F n i + (if i < n then cl1 F i n else 0) = cl2 F n i + cl1 F n i
        rw [if_pos hi, cl1_sym]), sm_add]
      rfl
    have e2 : cl2 F (n + 1) n = 0 := sm_low (fun j hj => if_neg (by omega))
    rw [e1, e2, cl_swap F n]
    rfl
theorem r_clashesNow (hA : M.2.1 = nB m F X) (hm : m ≤ 60) (hF : ∀ i, cOk (F i)) : aE (d + 3) 243 [.ref y] (mdW h y M, r) = some (.inl (some (.int (iI (sm (cl2 F m) m)))), (mdW h y M, r)) := by
  have hl := rcl_out (d := d) (h := h) (r := r) (y := y) hA hm hF m 0 (by omega) none
  rw [show ((sm (rcl F) 0 : Nat) : Int) = 0 from rfl, show ((0 : Nat) : Int) = 0 from rfl, ← cl_swap] at hl
  simp only [e243, r243_0, r243_1, r243_2, r243_3, r243_5, r243_6, r243_9, r243_10, r243_11, r243_14, r243_15, r243_17, r243_18, r243_21, r243_22, r243_23, r243_24, r243_25, r243_28, r243_29, r243_30, r243_31, r243_34, r243_37, r243_38, r243_39, r243_40, r243_43, r243_44, r243_45, r243_46, r243_49, r243_52, r243_53, r243_54, r243_55, r243_58, r243_59, r243_60, r243_63, r243_66, r243_67, r243_68, r243_69, r243_72, r243_73, r243_74, r243_77, r243_80, r243_81, r243_84, r243_85, r243_86, r243_87, r243_90, r243_93, r243_96, r243_99, r243_100, hl, kl_n, kl_i, kl_r, kl_z, kl_l, kl_d, catS_0, catS_c, cat_i, cat_l, cat_d, cat_r, cat_n, kC_r, kC_x, Option.bind_some, Option.toList_some, Option.toList_none, List.cons_append, List.nil_append, gB0, gB1, gB2, gB3, gB4, rvB, nI_iI, i0, i1, l0_, wr_s, aup_s, and_true, true_and, and_self, eq_self, if_true, if_false, Nat.zero_le, Nat.reduceAdd, Nat.reduceLeDiff, gN_I, gN_L, gN_P, bI_0, bI_ok, z0, z1, Bool.true_eq, Bool.false_eq_true, not_true_eq_false, not_false_eq_true]
theorem r_clashes (hA : M.2.1 = nB m F X) (hm : m ≤ 60) (hF : ∀ i, cOk (F i)) : aE (d + 4) 244 [.ref y] (mdW h y M, r) = some (.inl (some (.int (iI (sm (cl2 F m) m)))), (mdW h y ((iI 0, M.1.2), M.2), r)) := by
  have e := r_clashesNow (d := d) (h := h) (r := r) (y := y) (M := ((iI 0, M.1.2), M.2)) (X := X) hA hm hF
  simp only [e244, r244_0, r244_1, r244_2, r244_5, r244_6, r244_9, md_0, sB0i, md_th, e, kl_n, kl_i, kl_r, kl_z, kl_l, kl_d, catS_0, catS_c, cat_i, cat_l, cat_d, cat_r, cat_n, kC_r, kC_x, Option.bind_some, Option.toList_some, Option.toList_none, List.cons_append, List.nil_append, gB0, gB1, gB2, gB3, gB4, rvB, nI_iI, i0, i1, l0_, wr_s, aup_s, and_true, true_and, and_self, eq_self, if_true, if_false, Nat.zero_le, Nat.reduceAdd, Nat.reduceLeDiff, gN_I, gN_L, gN_P, bI_0, bI_ok, z0, z1, Bool.true_eq, Bool.false_eq_true, not_true_eq_false, not_false_eq_true]
end
