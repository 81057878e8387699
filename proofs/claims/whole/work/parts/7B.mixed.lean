/-! ===== the library sorts a part of a row: one or two sorted in, above one that is not greater ===== -/
/-- two free places go down by one -/
theorem two_s {a b j x y : Nat} {C : Nat → Nat} (h1 : a ≤ j - 1) (h2 : 0 < j) (h3 : j + 1 < b) : prm a b (upN (upN C j y) (j + 1) x) (upN (upN (upN C (j + 1) (C (j - 1))) (j - 1) y) j x) := by
  have p1 := prm_s (a := a) (b := b) (i := j) (j := j - 1) (C := upN (upN C j y) (j + 1) x) (by omega) (by omega)
  refine prm_e (prm_t p1 (prm_s (i := j) (j := j + 1) (by omega) (by omega))) ?_
  funext k
  unfold upN
  by_cases e1 : k = j
  · simp only [e1, if_true, show ¬ j = j + 1 by omega, if_false, show ¬ j + 1 = j - 1 by omega, show ¬ j + 1 = j by omega]
  · by_cases e2 : k = j + 1
    · simp only [e2, if_true, show ¬ j = j - 1 by omega, if_false, show ¬ j - 1 = j + 1 by omega, show ¬ j - 1 = j by omega, show ¬ j + 1 = j by omega, show ¬ j + 1 = j - 1 by omega]
    · by_cases e3 : k = j - 1
      · simp only [e3, if_true, show ¬ j - 1 = j by omega, if_false, show ¬ j - 1 = j + 1 by omega, show ¬ j = j + 1 by omega]
      · simp only [e1, e2, e3, if_false]
section
variable {d : Nat} {h : aHf} {r : Nat × Nat × Nat × Nat} {p N : Nat} {l1 l2 l3 l4 l5 l6 l7 l8 l9 l10 : Option Value} {z3 : Int32}
theorem mx_21 {slo k x : Nat} (hN : N ≤ 2000) (hk : k < N) (hx : bd x) : ∀ (m i : Nat) (C : Nat → Nat), i = slo + 1 + m → i ≤ k → (∀ j, bd (C j)) → hO1 slo i (k + 1) C x → C slo ≤ x → ∃ C' z, prm (slo + 1) (k + 1) (upN C i x) C' ∧ sor C' slo (k + 1) ∧
    L d 273 21 [some (.ref p), l1, l2, some (.int z3), some (.int (iI i)), some (.long (lI x)), none, l7, l8, l9, l10] [] (lw h p N C, r) = L d 273 5 [some (.ref p), l1, l2, some (.int z3), some (.int z), some (.long (lI x)), none, l7, l8, l9, l10] [] (lw h p N C', r) := by
  intro m
  induction m with
  | zero =>
    intro i C hi hik hC hH hs
    obtain rfl : i = slo + 1 := by omega
    have e1 : ((slo + 1 : Nat) : Int) + -1 = ((slo : Nat) : Int) := by omega
    have e2 : ((slo : Nat) : Int) + 1 = ((slo + 1 : Nat) : Int) := by omega
    have b1 : C slo < 4398046511104 := hC _
    have b2 : x < 4398046511104 := hx
    refine ⟨upN C (slo + 1) x, iI ((slo : Nat) : Int), prm_r _ _ _, hO1_e hH (by omega) (Or.inr hs), ?_⟩
    rw [r273_21]
    simp (disch := omega) only [r273_23, r273_23n, r273_24, r273_27, r273_29, r273_30, r273_31, r273_34, r273_34n, r273_35, r273_37, r273_38, r273_39, r273_39n, r273_40, r273_42, r273_43, r273_44, r273_47, r273_47n, r273_48, r273_50, r273_51, r273_52, r273_54, r273_55, iI_add, e1, lw_g, lc_ge, eL_le, hs, e2, lw_s, lw_u, kl_n, kl_i, kl_r, kl_z, kl_l, kl_d, catS_0, catS_c, cat_i, cat_l, cat_d, cat_r, cat_n, kC_r, kC_x, Option.bind_some, Option.toList_some, Option.toList_none, List.cons_append, List.nil_append, gB0, gB1, gB2, gB3, gB4, rvB, nI_iI, i0, i1, l0_, wr_s, aup_s, and_true, true_and, and_self, eq_self, if_true, if_false, Nat.zero_le, Nat.reduceAdd, Nat.reduceLeDiff, gN_I, gN_L, gN_P, bI_0, bI_ok, z0, z1, Bool.true_eq, Bool.false_eq_true, not_true_eq_false, not_false_eq_true]
  | succ m ih =>
    intro i C hi hik hC hH hs
    obtain rfl : i = slo + 1 + m + 1 := by omega
    have e1 : ((slo + 1 + m + 1 : Nat) : Int) + -1 = ((slo + 1 + m : Nat) : Int) := by omega
    have e2 : ((slo + 1 + m : Nat) : Int) + 1 = ((slo + 1 + m + 1 : Nat) : Int) := by omega
    have b1 : C (slo + 1 + m) < 4398046511104 := hC _
    have b2 : x < 4398046511104 := hx
    by_cases q : C (slo + 1 + m) ≤ x
    · refine ⟨upN C (slo + 1 + m + 1) x, iI ((slo + 1 + m : Nat) : Int), prm_r _ _ _, hO1_e hH (by omega) (Or.inr q), ?_⟩
      rw [r273_21]
      simp (disch := omega) only [r273_23, r273_23n, r273_24, r273_27, r273_29, r273_30, r273_31, r273_34, r273_34n, r273_35, r273_37, r273_38, r273_39, r273_39n, r273_40, r273_42, r273_43, r273_44, r273_47, r273_47n, r273_48, r273_50, r273_51, r273_52, r273_54, r273_55, iI_add, e1, lw_g, lc_ge, eL_le, q, e2, lw_s, lw_u, kl_n, kl_i, kl_r, kl_z, kl_l, kl_d, catS_0, catS_c, cat_i, cat_l, cat_d, cat_r, cat_n, kC_r, kC_x, Option.bind_some, Option.toList_some, Option.toList_none, List.cons_append, List.nil_append, gB0, gB1, gB2, gB3, gB4, rvB, nI_iI, i0, i1, l0_, wr_s, aup_s, and_true, true_and, and_self, eq_self, if_true, if_false, Nat.zero_le, Nat.reduceAdd, Nat.reduceLeDiff, gN_I, gN_L, gN_P, bI_0, bI_ok, z0, z1, Bool.true_eq, Bool.false_eq_true, not_true_eq_false, not_false_eq_true]
    · obtain ⟨C', z, p1, s1, hl⟩ := ih (slo + 1 + m) (upN C (slo + 1 + m + 1) (C (slo + 1 + m))) rfl (by omega) (upN_ok b1 hC) (hO1_s hH (by omega) (by omega) (by show x ≤ C (slo + 1 + m + 1 - 1); rw [Nat.add_sub_cancel]; omega)) (by rw [upN_o (by omega)]; exact hs)
      refine ⟨C', z, prm_t (hole_s (by omega) (by omega) (by omega)) p1, s1, ?_⟩
      rw [r273_21]
      simp (disch := omega) only [r273_23, r273_23n, r273_24, r273_27, r273_29, r273_30, r273_31, r273_34, r273_34n, r273_35, r273_37, r273_38, r273_39, r273_39n, r273_40, r273_42, r273_43, r273_44, r273_47, r273_47n, r273_48, r273_50, r273_51, r273_52, r273_54, r273_55, iI_add, e1, lw_g, lc_ge, eL_le, q, e2, lw_s, lw_u, kl_n, kl_i, kl_r, kl_z, kl_l, kl_d, catS_0, catS_c, cat_i, cat_l, cat_d, cat_r, cat_n, kC_r, kC_x, Option.bind_some, Option.toList_some, Option.toList_none, List.cons_append, List.nil_append, gB0, gB1, gB2, gB3, gB4, rvB, nI_iI, i0, i1, l0_, wr_s, aup_s, and_true, true_and, and_self, eq_self, if_true, if_false, Nat.zero_le, Nat.reduceAdd, Nat.reduceLeDiff, gN_I, gN_L, gN_P, bI_0, bI_ok, z0, z1, Bool.true_eq, Bool.false_eq_true, not_true_eq_false, not_false_eq_true]
      exact hl
theorem mx_108 {slo k x : Nat} (hN : N ≤ 2000) (hk : k < N) (hx : bd x) : ∀ (m i : Nat) (C : Nat → Nat), i = slo + 1 + m → i ≤ k → (∀ j, bd (C j)) → hO1 slo i (k + 1) C x → C slo ≤ x → ∃ C' z, prm (slo + 1) (k + 1) (upN C i x) C' ∧ sor C' slo (k + 1) ∧
    L d 273 108 [some (.ref p), l1, l2, l3, l4, none, some (.int (iI i)), l7, some (.long (lI x)), none, l10] [] (lw h p N C, r) = L d 273 231 [some (.ref p), l1, l2, l3, l4, none, some (.int z), l7, some (.long (lI x)), none, l10] [] (lw h p N C', r) := by
  intro m
  induction m with
  | zero =>
    intro i C hi hik hC hH hs
    obtain rfl : i = slo + 1 := by omega
    have e1 : ((slo + 1 : Nat) : Int) + -1 = ((slo : Nat) : Int) := by omega
    have e2 : ((slo : Nat) : Int) + 1 = ((slo + 1 : Nat) : Int) := by omega
    have b1 : C slo < 4398046511104 := hC _
    have b2 : x < 4398046511104 := hx
    refine ⟨upN C (slo + 1) x, iI ((slo : Nat) : Int), prm_r _ _ _, hO1_e hH (by omega) (Or.inr hs), ?_⟩
    rw [r273_108]
    simp (disch := omega) only [r273_110, r273_110n, r273_111, r273_114, r273_116, r273_117, r273_118, r273_121, r273_121n, r273_122, r273_124, r273_125, r273_126, r273_126n, r273_127, r273_129, r273_130, r273_131, r273_134, r273_134n, r273_135, r273_137, r273_138, r273_139, r273_141, r273_142, iI_add, e1, lw_g, lc_ge, eL_le, hs, e2, lw_s, lw_u, kl_n, kl_i, kl_r, kl_z, kl_l, kl_d, catS_0, catS_c, cat_i, cat_l, cat_d, cat_r, cat_n, kC_r, kC_x, Option.bind_some, Option.toList_some, Option.toList_none, List.cons_append, List.nil_append, gB0, gB1, gB2, gB3, gB4, rvB, nI_iI, i0, i1, l0_, wr_s, aup_s, and_true, true_and, and_self, eq_self, if_true, if_false, Nat.zero_le, Nat.reduceAdd, Nat.reduceLeDiff, gN_I, gN_L, gN_P, bI_0, bI_ok, z0, z1, Bool.true_eq, Bool.false_eq_true, not_true_eq_false, not_false_eq_true]
  | succ m ih =>
    intro i C hi hik hC hH hs
    obtain rfl : i = slo + 1 + m + 1 := by omega
    have e1 : ((slo + 1 + m + 1 : Nat) : Int) + -1 = ((slo + 1 + m : Nat) : Int) := by omega
    have e2 : ((slo + 1 + m : Nat) : Int) + 1 = ((slo + 1 + m + 1 : Nat) : Int) := by omega
    have b1 : C (slo + 1 + m) < 4398046511104 := hC _
    have b2 : x < 4398046511104 := hx
    by_cases q : C (slo + 1 + m) ≤ x
    · refine ⟨upN C (slo + 1 + m + 1) x, iI ((slo + 1 + m : Nat) : Int), prm_r _ _ _, hO1_e hH (by omega) (Or.inr q), ?_⟩
      rw [r273_108]
      simp (disch := omega) only [r273_110, r273_110n, r273_111, r273_114, r273_116, r273_117, r273_118, r273_121, r273_121n, r273_122, r273_124, r273_125, r273_126, r273_126n, r273_127, r273_129, r273_130, r273_131, r273_134, r273_134n, r273_135, r273_137, r273_138, r273_139, r273_141, r273_142, iI_add, e1, lw_g, lc_ge, eL_le, q, e2, lw_s, lw_u, kl_n, kl_i, kl_r, kl_z, kl_l, kl_d, catS_0, catS_c, cat_i, cat_l, cat_d, cat_r, cat_n, kC_r, kC_x, Option.bind_some, Option.toList_some, Option.toList_none, List.cons_append, List.nil_append, gB0, gB1, gB2, gB3, gB4, rvB, nI_iI, i0, i1, l0_, wr_s, aup_s, and_true, true_and, and_self, eq_self, if_true, if_false, Nat.zero_le, Nat.reduceAdd, Nat.reduceLeDiff, gN_I, gN_L, gN_P, bI_0, bI_ok, z0, z1, Bool.true_eq, Bool.false_eq_true, not_true_eq_false, not_false_eq_true]
    · obtain ⟨C', z, p1, s1, hl⟩ := ih (slo + 1 + m) (upN C (slo + 1 + m + 1) (C (slo + 1 + m))) rfl (by omega) (upN_ok b1 hC) (hO1_s hH (by omega) (by omega) (by show x ≤ C (slo + 1 + m + 1 - 1); rw [Nat.add_sub_cancel]; omega)) (by rw [upN_o (by omega)]; exact hs)
      refine ⟨C', z, prm_t (hole_s (by omega) (by omega) (by omega)) p1, s1, ?_⟩
      rw [r273_108]
      simp (disch := omega) only [r273_110, r273_110n, r273_111, r273_114, r273_116, r273_117, r273_118, r273_121, r273_121n, r273_122, r273_124, r273_125, r273_126, r273_126n, r273_127, r273_129, r273_130, r273_131, r273_134, r273_134n, r273_135, r273_137, r273_138, r273_139, r273_141, r273_142, iI_add, e1, lw_g, lc_ge, eL_le, q, e2, lw_s, lw_u, kl_n, kl_i, kl_r, kl_z, kl_l, kl_d, catS_0, catS_c, cat_i, cat_l, cat_d, cat_r, cat_n, kC_r, kC_x, Option.bind_some, Option.toList_some, Option.toList_none, List.cons_append, List.nil_append, gB0, gB1, gB2, gB3, gB4, rvB, nI_iI, i0, i1, l0_, wr_s, aup_s, and_true, true_and, and_self, eq_self, if_true, if_false, Nat.zero_le, Nat.reduceAdd, Nat.reduceLeDiff, gN_I, gN_L, gN_P, bI_0, bI_ok, z0, z1, Bool.true_eq, Bool.false_eq_true, not_true_eq_false, not_false_eq_true]
      exact hl
theorem mx_197 {slo k x : Nat} (hN : N ≤ 2000) (hk : k < N) (hx : bd x) : ∀ (m i : Nat) (C : Nat → Nat), i = slo + 1 + m → i ≤ k → (∀ j, bd (C j)) → hO1 slo i (k + 1) C x → C slo ≤ x → ∃ C' z, prm (slo + 1) (k + 1) (upN C i x) C' ∧ sor C' slo (k + 1) ∧
    L d 273 197 [some (.ref p), l1, l2, l3, l4, none, some (.int (iI i)), l7, some (.long (lI x)), none, l10] [] (lw h p N C, r) = L d 273 231 [some (.ref p), l1, l2, l3, l4, none, some (.int z), l7, some (.long (lI x)), none, l10] [] (lw h p N C', r) := by
  intro m
  induction m with
  | zero =>
    intro i C hi hik hC hH hs
    obtain rfl : i = slo + 1 := by omega
    have e1 : ((slo + 1 : Nat) : Int) + -1 = ((slo : Nat) : Int) := by omega
    have e2 : ((slo : Nat) : Int) + 1 = ((slo + 1 : Nat) : Int) := by omega
    have b1 : C slo < 4398046511104 := hC _
    have b2 : x < 4398046511104 := hx
    refine ⟨upN C (slo + 1) x, iI ((slo : Nat) : Int), prm_r _ _ _, hO1_e hH (by omega) (Or.inr hs), ?_⟩
    rw [r273_197]
    simp (disch := omega) only [r273_199, r273_199n, r273_200, r273_203, r273_205, r273_206, r273_207, r273_210, r273_210n, r273_211, r273_213, r273_214, r273_215, r273_215n, r273_216, r273_218, r273_219, r273_220, r273_223, r273_223n, r273_224, r273_226, r273_227, r273_228, r273_230, iI_add, e1, lw_g, lc_ge, eL_le, hs, e2, lw_s, lw_u, kl_n, kl_i, kl_r, kl_z, kl_l, kl_d, catS_0, catS_c, cat_i, cat_l, cat_d, cat_r, cat_n, kC_r, kC_x, Option.bind_some, Option.toList_some, Option.toList_none, List.cons_append, List.nil_append, gB0, gB1, gB2, gB3, gB4, rvB, nI_iI, i0, i1, l0_, wr_s, aup_s, and_true, true_and, and_self, eq_self, if_true, if_false, Nat.zero_le, Nat.reduceAdd, Nat.reduceLeDiff, gN_I, gN_L, gN_P, bI_0, bI_ok, z0, z1, Bool.true_eq, Bool.false_eq_true, not_true_eq_false, not_false_eq_true]
  | succ m ih =>
    intro i C hi hik hC hH hs
    obtain rfl : i = slo + 1 + m + 1 := by omega
    have e1 : ((slo + 1 + m + 1 : Nat) : Int) + -1 = ((slo + 1 + m : Nat) : Int) := by omega
    have e2 : ((slo + 1 + m : Nat) : Int) + 1 = ((slo + 1 + m + 1 : Nat) : Int) := by omega
    have b1 : C (slo + 1 + m) < 4398046511104 := hC _
    have b2 : x < 4398046511104 := hx
    by_cases q : C (slo + 1 + m) ≤ x
    · refine ⟨upN C (slo + 1 + m + 1) x, iI ((slo + 1 + m : Nat) : Int), prm_r _ _ _, hO1_e hH (by omega) (Or.inr q), ?_⟩
      rw [r273_197]
      simp (disch := omega) only [r273_199, r273_199n, r273_200, r273_203, r273_205, r273_206, r273_207, r273_210, r273_210n, r273_211, r273_213, r273_214, r273_215, r273_215n, r273_216, r273_218, r273_219, r273_220, r273_223, r273_223n, r273_224, r273_226, r273_227, r273_228, r273_230, iI_add, e1, lw_g, lc_ge, eL_le, q, e2, lw_s, lw_u, kl_n, kl_i, kl_r, kl_z, kl_l, kl_d, catS_0, catS_c, cat_i, cat_l, cat_d, cat_r, cat_n, kC_r, kC_x, Option.bind_some, Option.toList_some, Option.toList_none, List.cons_append, List.nil_append, gB0, gB1, gB2, gB3, gB4, rvB, nI_iI, i0, i1, l0_, wr_s, aup_s, and_true, true_and, and_self, eq_self, if_true, if_false, Nat.zero_le, Nat.reduceAdd, Nat.reduceLeDiff, gN_I, gN_L, gN_P, bI_0, bI_ok, z0, z1, Bool.true_eq, Bool.false_eq_true, not_true_eq_false, not_false_eq_true]
    · obtain ⟨C', z, p1, s1, hl⟩ := ih (slo + 1 + m) (upN C (slo + 1 + m + 1) (C (slo + 1 + m))) rfl (by omega) (upN_ok b1 hC) (hO1_s hH (by omega) (by omega) (by show x ≤ C (slo + 1 + m + 1 - 1); rw [Nat.add_sub_cancel]; omega)) (by rw [upN_o (by omega)]; exact hs)
      refine ⟨C', z, prm_t (hole_s (by omega) (by omega) (by omega)) p1, s1, ?_⟩
      rw [r273_197]
      simp (disch := omega) only [r273_199, r273_199n, r273_200, r273_203, r273_205, r273_206, r273_207, r273_210, r273_210n, r273_211, r273_213, r273_214, r273_215, r273_215n, r273_216, r273_218, r273_219, r273_220, r273_223, r273_223n, r273_224, r273_226, r273_227, r273_228, r273_230, iI_add, e1, lw_g, lc_ge, eL_le, q, e2, lw_s, lw_u, kl_n, kl_i, kl_r, kl_z, kl_l, kl_d, catS_0, catS_c, cat_i, cat_l, cat_d, cat_r, cat_n, kC_r, kC_x, Option.bind_some, Option.toList_some, Option.toList_none, List.cons_append, List.nil_append, gB0, gB1, gB2, gB3, gB4, rvB, nI_iI, i0, i1, l0_, wr_s, aup_s, and_true, true_and, and_self, eq_self, if_true, if_false, Nat.zero_le, Nat.reduceAdd, Nat.reduceLeDiff, gN_I, gN_L, gN_P, bI_0, bI_ok, z0, z1, Bool.true_eq, Bool.false_eq_true, not_true_eq_false, not_false_eq_true]
      exact hl
theorem mx_300 {slo k x : Nat} (hN : N ≤ 2000) (hk : k < N) (hx : bd x) : ∀ (m i : Nat) (C : Nat → Nat), i = slo + 1 + m → i ≤ k → (∀ j, bd (C j)) → hO1 slo i (k + 1) C x → C slo ≤ x → ∃ C' z, prm (slo + 1) (k + 1) (upN C i x) C' ∧ sor C' slo (k + 1) ∧
    L d 273 300 [some (.ref p), l1, l2, l3, l4, none, some (.int (iI i)), l7, l8, some (.long (lI x)), none] [] (lw h p N C, r) = L d 273 420 [some (.ref p), l1, l2, l3, l4, none, some (.int z), l7, l8, some (.long (lI x)), none] [] (lw h p N C', r) := by
  intro m
  induction m with
  | zero =>
    intro i C hi hik hC hH hs
    obtain rfl : i = slo + 1 := by omega
    have e1 : ((slo + 1 : Nat) : Int) + -1 = ((slo : Nat) : Int) := by omega
    have e2 : ((slo : Nat) : Int) + 1 = ((slo + 1 : Nat) : Int) := by omega
    have b1 : C slo < 4398046511104 := hC _
    have b2 : x < 4398046511104 := hx
    refine ⟨upN C (slo + 1) x, iI ((slo : Nat) : Int), prm_r _ _ _, hO1_e hH (by omega) (Or.inr hs), ?_⟩
    rw [r273_300]
    simp (disch := omega) only [r273_302, r273_302n, r273_303, r273_306, r273_308, r273_309, r273_310, r273_313, r273_313n, r273_314, r273_316, r273_317, r273_318, r273_318n, r273_319, r273_321, r273_322, r273_323, r273_326, r273_326n, r273_327, r273_329, r273_330, r273_331, r273_333, r273_334, iI_add, e1, lw_g, lc_ge, eL_le, hs, e2, lw_s, lw_u, kl_n, kl_i, kl_r, kl_z, kl_l, kl_d, catS_0, catS_c, cat_i, cat_l, cat_d, cat_r, cat_n, kC_r, kC_x, Option.bind_some, Option.toList_some, Option.toList_none, List.cons_append, List.nil_append, gB0, gB1, gB2, gB3, gB4, rvB, nI_iI, i0, i1, l0_, wr_s, aup_s, and_true, true_and, and_self, eq_self, if_true, if_false, Nat.zero_le, Nat.reduceAdd, Nat.reduceLeDiff, gN_I, gN_L, gN_P, bI_0, bI_ok, z0, z1, Bool.true_eq, Bool.false_eq_true, not_true_eq_false, not_false_eq_true]
  | succ m ih =>
    intro i C hi hik hC hH hs
    obtain rfl : i = slo + 1 + m + 1 := by omega
    have e1 : ((slo + 1 + m + 1 : Nat) : Int) + -1 = ((slo + 1 + m : Nat) : Int) := by omega
    have e2 : ((slo + 1 + m : Nat) : Int) + 1 = ((slo + 1 + m + 1 : Nat) : Int) := by omega
    have b1 : C (slo + 1 + m) < 4398046511104 := hC _
    have b2 : x < 4398046511104 := hx
    by_cases q : C (slo + 1 + m) ≤ x
    · refine ⟨upN C (slo + 1 + m + 1) x, iI ((slo + 1 + m : Nat) : Int), prm_r _ _ _, hO1_e hH (by omega) (Or.inr q), ?_⟩
      rw [r273_300]
      simp (disch := omega) only [r273_302, r273_302n, r273_303, r273_306, r273_308, r273_309, r273_310, r273_313, r273_313n, r273_314, r273_316, r273_317, r273_318, r273_318n, r273_319, r273_321, r273_322, r273_323, r273_326, r273_326n, r273_327, r273_329, r273_330, r273_331, r273_333, r273_334, iI_add, e1, lw_g, lc_ge, eL_le, q, e2, lw_s, lw_u, kl_n, kl_i, kl_r, kl_z, kl_l, kl_d, catS_0, catS_c, cat_i, cat_l, cat_d, cat_r, cat_n, kC_r, kC_x, Option.bind_some, Option.toList_some, Option.toList_none, List.cons_append, List.nil_append, gB0, gB1, gB2, gB3, gB4, rvB, nI_iI, i0, i1, l0_, wr_s, aup_s, and_true, true_and, and_self, eq_self, if_true, if_false, Nat.zero_le, Nat.reduceAdd, Nat.reduceLeDiff, gN_I, gN_L, gN_P, bI_0, bI_ok, z0, z1, Bool.true_eq, Bool.false_eq_true, not_true_eq_false, not_false_eq_true]
    · obtain ⟨C', z, p1, s1, hl⟩ := ih (slo + 1 + m) (upN C (slo + 1 + m + 1) (C (slo + 1 + m))) rfl (by omega) (upN_ok b1 hC) (hO1_s hH (by omega) (by omega) (by show x ≤ C (slo + 1 + m + 1 - 1); rw [Nat.add_sub_cancel]; omega)) (by rw [upN_o (by omega)]; exact hs)
      refine ⟨C', z, prm_t (hole_s (by omega) (by omega) (by omega)) p1, s1, ?_⟩
      rw [r273_300]
      simp (disch := omega) only [r273_302, r273_302n, r273_303, r273_306, r273_308, r273_309, r273_310, r273_313, r273_313n, r273_314, r273_316, r273_317, r273_318, r273_318n, r273_319, r273_321, r273_322, r273_323, r273_326, r273_326n, r273_327, r273_329, r273_330, r273_331, r273_333, r273_334, iI_add, e1, lw_g, lc_ge, eL_le, q, e2, lw_s, lw_u, kl_n, kl_i, kl_r, kl_z, kl_l, kl_d, catS_0, catS_c, cat_i, cat_l, cat_d, cat_r, cat_n, kC_r, kC_x, Option.bind_some, Option.toList_some, Option.toList_none, List.cons_append, List.nil_append, gB0, gB1, gB2, gB3, gB4, rvB, nI_iI, i0, i1, l0_, wr_s, aup_s, and_true, true_and, and_self, eq_self, if_true, if_false, Nat.zero_le, Nat.reduceAdd, Nat.reduceLeDiff, gN_I, gN_L, gN_P, bI_0, bI_ok, z0, z1, Bool.true_eq, Bool.false_eq_true, not_true_eq_false, not_false_eq_true]
      exact hl
theorem mx_386 {slo k x : Nat} (hN : N ≤ 2000) (hk : k < N) (hx : bd x) : ∀ (m i : Nat) (C : Nat → Nat), i = slo + 1 + m → i ≤ k → (∀ j, bd (C j)) → hO1 slo i (k + 1) C x → C slo ≤ x → ∃ C' z, prm (slo + 1) (k + 1) (upN C i x) C' ∧ sor C' slo (k + 1) ∧
    L d 273 386 [some (.ref p), l1, l2, l3, l4, none, some (.int (iI i)), some (.long (lI x)), none, l9, l10] [] (lw h p N C, r) = L d 273 420 [some (.ref p), l1, l2, l3, l4, none, some (.int z), some (.long (lI x)), none, l9, l10] [] (lw h p N C', r) := by
  intro m
  induction m with
  | zero =>
    intro i C hi hik hC hH hs
    obtain rfl : i = slo + 1 := by omega
    have e1 : ((slo + 1 : Nat) : Int) + -1 = ((slo : Nat) : Int) := by omega
    have e2 : ((slo : Nat) : Int) + 1 = ((slo + 1 : Nat) : Int) := by omega
    have b1 : C slo < 4398046511104 := hC _
    have b2 : x < 4398046511104 := hx
    refine ⟨upN C (slo + 1) x, iI ((slo : Nat) : Int), prm_r _ _ _, hO1_e hH (by omega) (Or.inr hs), ?_⟩
    rw [r273_386]
    simp (disch := omega) only [r273_388, r273_388n, r273_389, r273_392, r273_394, r273_395, r273_396, r273_399, r273_399n, r273_400, r273_402, r273_403, r273_404, r273_404n, r273_405, r273_407, r273_408, r273_409, r273_412, r273_412n, r273_413, r273_415, r273_416, r273_417, r273_419, iI_add, e1, lw_g, lc_ge, eL_le, hs, e2, lw_s, lw_u, kl_n, kl_i, kl_r, kl_z, kl_l, kl_d, catS_0, catS_c, cat_i, cat_l, cat_d, cat_r, cat_n, kC_r, kC_x, Option.bind_some, Option.toList_some, Option.toList_none, List.cons_append, List.nil_append, gB0, gB1, gB2, gB3, gB4, rvB, nI_iI, i0, i1, l0_, wr_s, aup_s, and_true, true_and, and_self, eq_self, if_true, if_false, Nat.zero_le, Nat.reduceAdd, Nat.reduceLeDiff, gN_I, gN_L, gN_P, bI_0, bI_ok, z0, z1, Bool.true_eq, Bool.false_eq_true, not_true_eq_false, not_false_eq_true]
  | succ m ih =>
    intro i C hi hik hC hH hs
    obtain rfl : i = slo + 1 + m + 1 := by omega
    have e1 : ((slo + 1 + m + 1 : Nat) : Int) + -1 = ((slo + 1 + m : Nat) : Int) := by omega
    have e2 : ((slo + 1 + m : Nat) : Int) + 1 = ((slo + 1 + m + 1 : Nat) : Int) := by omega
    have b1 : C (slo + 1 + m) < 4398046511104 := hC _
    have b2 : x < 4398046511104 := hx
    by_cases q : C (slo + 1 + m) ≤ x
    · refine ⟨upN C (slo + 1 + m + 1) x, iI ((slo + 1 + m : Nat) : Int), prm_r _ _ _, hO1_e hH (by omega) (Or.inr q), ?_⟩
      rw [r273_386]
      simp (disch := omega) only [r273_388, r273_388n, r273_389, r273_392, r273_394, r273_395, r273_396, r273_399, r273_399n, r273_400, r273_402, r273_403, r273_404, r273_404n, r273_405, r273_407, r273_408, r273_409, r273_412, r273_412n, r273_413, r273_415, r273_416, r273_417, r273_419, iI_add, e1, lw_g, lc_ge, eL_le, q, e2, lw_s, lw_u, kl_n, kl_i, kl_r, kl_z, kl_l, kl_d, catS_0, catS_c, cat_i, cat_l, cat_d, cat_r, cat_n, kC_r, kC_x, Option.bind_some, Option.toList_some, Option.toList_none, List.cons_append, List.nil_append, gB0, gB1, gB2, gB3, gB4, rvB, nI_iI, i0, i1, l0_, wr_s, aup_s, and_true, true_and, and_self, eq_self, if_true, if_false, Nat.zero_le, Nat.reduceAdd, Nat.reduceLeDiff, gN_I, gN_L, gN_P, bI_0, bI_ok, z0, z1, Bool.true_eq, Bool.false_eq_true, not_true_eq_false, not_false_eq_true]
    · obtain ⟨C', z, p1, s1, hl⟩ := ih (slo + 1 + m) (upN C (slo + 1 + m + 1) (C (slo + 1 + m))) rfl (by omega) (upN_ok b1 hC) (hO1_s hH (by omega) (by omega) (by show x ≤ C (slo + 1 + m + 1 - 1); rw [Nat.add_sub_cancel]; omega)) (by rw [upN_o (by omega)]; exact hs)
      refine ⟨C', z, prm_t (hole_s (by omega) (by omega) (by omega)) p1, s1, ?_⟩
      rw [r273_386]
      simp (disch := omega) only [r273_388, r273_388n, r273_389, r273_392, r273_394, r273_395, r273_396, r273_399, r273_399n, r273_400, r273_402, r273_403, r273_404, r273_404n, r273_405, r273_407, r273_408, r273_409, r273_412, r273_412n, r273_413, r273_415, r273_416, r273_417, r273_419, iI_add, e1, lw_g, lc_ge, eL_le, q, e2, lw_s, lw_u, kl_n, kl_i, kl_r, kl_z, kl_l, kl_d, catS_0, catS_c, cat_i, cat_l, cat_d, cat_r, cat_n, kC_r, kC_x, Option.bind_some, Option.toList_some, Option.toList_none, List.cons_append, List.nil_append, gB0, gB1, gB2, gB3, gB4, rvB, nI_iI, i0, i1, l0_, wr_s, aup_s, and_true, true_and, and_self, eq_self, if_true, if_false, Nat.zero_le, Nat.reduceAdd, Nat.reduceLeDiff, gN_I, gN_L, gN_P, bI_0, bI_ok, z0, z1, Bool.true_eq, Bool.false_eq_true, not_true_eq_false, not_false_eq_true]
      exact hl
theorem mx_263 {slo k x y : Nat} (hN : N ≤ 2000) (hk : k < N) (hx : bd x) (hy : y ≤ x) : ∀ (m i : Nat) (C : Nat → Nat), i = slo + 1 + m → i + 1 ≤ k → (∀ j, bd (C j)) → hO2 slo i (k + 1) C x → C slo ≤ x → ∃ C1 j, (slo < j ∧ j ≤ k) ∧ hO1 slo j (k + 1) C1 y ∧ prm (slo + 1) (k + 1) (upN (upN C i y) (i + 1) x) (upN C1 j y) ∧ (∀ j, bd (C1 j)) ∧ C1 slo = C slo ∧
    L d 273 263 [some (.ref p), l1, l2, l3, l4, none, some (.int (iI i)), some (.long (lI x)), none, l9, l10] [] (lw h p N C, r) = L d 273 300 [some (.ref p), l1, l2, l3, l4, none, some (.int (iI j)), some (.long (lI x)), none, l9, l10] [] (lw h p N C1, r) := by
  intro m
  induction m with
  | zero =>
    intro i C hi hik hC hH hs
    obtain rfl : i = slo + 1 := by omega
    have e1 : ((slo + 1 : Nat) : Int) + -1 = ((slo : Nat) : Int) := by omega
    have e2 : ((slo : Nat) : Int) + 1 = ((slo + 1 : Nat) : Int) := by omega
    have e3 : ((slo + 1 : Nat) : Int) + 1 = ((slo + 1 + 1 : Nat) : Int) := by omega
    have b1 : C slo < 4398046511104 := hC _
    have b2 : x < 4398046511104 := hx
    refine ⟨upN C (slo + 1 + 1) x, slo + 1, by omega, hO2_e hH (by omega) (Or.inr hs) hy, prm_e (prm_r _ _ _) (upN_c (by omega)), upN_ok hx hC, upN_o (by omega), ?_⟩
    rw [r273_263]
    simp (disch := omega) only [r273_265, r273_265n, r273_266, r273_269, r273_271, r273_272, r273_273, r273_276, r273_276n, r273_277, r273_279, r273_280, r273_281, r273_281n, r273_282, r273_284, r273_285, r273_286, r273_289, r273_289n, r273_290, r273_293, r273_295, r273_296, r273_297, r273_299, iI_add, e1, lw_g, lc_ge, eL_le, hs, e2, e3, lw_s, lw_u, kl_n, kl_i, kl_r, kl_z, kl_l, kl_d, catS_0, catS_c, cat_i, cat_l, cat_d, cat_r, cat_n, kC_r, kC_x, Option.bind_some, Option.toList_some, Option.toList_none, List.cons_append, List.nil_append, gB0, gB1, gB2, gB3, gB4, rvB, nI_iI, i0, i1, l0_, wr_s, aup_s, and_true, true_and, and_self, eq_self, if_true, if_false, Nat.zero_le, Nat.reduceAdd, Nat.reduceLeDiff, gN_I, gN_L, gN_P, bI_0, bI_ok, z0, z1, Bool.true_eq, Bool.false_eq_true, not_true_eq_false, not_false_eq_true]
  | succ m ih =>
    intro i C hi hik hC hH hs
    obtain rfl : i = slo + 1 + m + 1 := by omega
    have e1 : ((slo + 1 + m + 1 : Nat) : Int) + -1 = ((slo + 1 + m : Nat) : Int) := by omega
    have e2 : ((slo + 1 + m : Nat) : Int) + 1 = ((slo + 1 + m + 1 : Nat) : Int) := by omega
    have e3 : ((slo + 1 + m + 1 : Nat) : Int) + 1 = ((slo + 1 + m + 1 + 1 : Nat) : Int) := by omega
    have e4 : ((slo + 1 + m : Nat) : Int) + 2 = ((slo + 1 + m + 1 + 1 : Nat) : Int) := by omega
    have b1 : C (slo + 1 + m) < 4398046511104 := hC _
    have b2 : x < 4398046511104 := hx
    by_cases q : C (slo + 1 + m) ≤ x
    · refine ⟨upN C (slo + 1 + m + 1 + 1) x, slo + 1 + m + 1, by omega, hO2_e hH (by omega) (Or.inr q) hy, prm_e (prm_r _ _ _) (upN_c (by omega)), upN_ok hx hC, upN_o (by omega), ?_⟩
      rw [r273_263]
      simp (disch := omega) only [r273_265, r273_265n, r273_266, r273_269, r273_271, r273_272, r273_273, r273_276, r273_276n, r273_277, r273_279, r273_280, r273_281, r273_281n, r273_282, r273_284, r273_285, r273_286, r273_289, r273_289n, r273_290, r273_293, r273_295, r273_296, r273_297, r273_299, iI_add, e1, lw_g, lc_ge, eL_le, q, e2, e3, lw_s, lw_u, kl_n, kl_i, kl_r, kl_z, kl_l, kl_d, catS_0, catS_c, cat_i, cat_l, cat_d, cat_r, cat_n, kC_r, kC_x, Option.bind_some, Option.toList_some, Option.toList_none, List.cons_append, List.nil_append, gB0, gB1, gB2, gB3, gB4, rvB, nI_iI, i0, i1, l0_, wr_s, aup_s, and_true, true_and, and_self, eq_self, if_true, if_false, Nat.zero_le, Nat.reduceAdd, Nat.reduceLeDiff, gN_I, gN_L, gN_P, bI_0, bI_ok, z0, z1, Bool.true_eq, Bool.false_eq_true, not_true_eq_false, not_false_eq_true]
    · have hg : x ≤ C (slo + 1 + m + 1 - 1) := by
        rw [Nat.add_sub_cancel]
        omega
      have p0 := two_s (a := slo + 1) (b := k + 1) (j := slo + 1 + m + 1) (x := x) (y := y) (C := C) (by omega) (by omega) (by omega)
      rw [show slo + 1 + m + 1 - 1 = slo + 1 + m from Nat.add_sub_cancel _ _] at p0
      obtain ⟨C1, j, hj, s1, p1, b3, o1, hl⟩ := ih (slo + 1 + m) (upN C (slo + 1 + m + 1 + 1) (C (slo + 1 + m))) rfl (by omega) (upN_ok b1 hC) (hO2_s hH (by omega) (by omega) hg) (by rw [upN_o (by omega)]; exact hs)
      refine ⟨C1, j, hj, s1, prm_t p0 p1, b3, by rw [o1, upN_o (by omega)], ?_⟩
      rw [r273_263]
      simp (disch := omega) only [r273_265, r273_265n, r273_266, r273_269, r273_271, r273_272, r273_273, r273_276, r273_276n, r273_277, r273_279, r273_280, r273_281, r273_281n, r273_282, r273_284, r273_285, r273_286, r273_289, r273_289n, r273_290, r273_293, r273_295, r273_296, r273_297, r273_299, iI_add, e1, lw_g, lc_ge, eL_le, q, e4, lw_s, lw_u, kl_n, kl_i, kl_r, kl_z, kl_l, kl_d, catS_0, catS_c, cat_i, cat_l, cat_d, cat_r, cat_n, kC_r, kC_x, Option.bind_some, Option.toList_some, Option.toList_none, List.cons_append, List.nil_append, gB0, gB1, gB2, gB3, gB4, rvB, nI_iI, i0, i1, l0_, wr_s, aup_s, and_true, true_and, and_self, eq_self, if_true, if_false, Nat.zero_le, Nat.reduceAdd, Nat.reduceLeDiff, gN_I, gN_L, gN_P, bI_0, bI_ok, z0, z1, Bool.true_eq, Bool.false_eq_true, not_true_eq_false, not_false_eq_true]
      exact hl
theorem mx_349 {slo k x y : Nat} (hN : N ≤ 2000) (hk : k < N) (hx : bd x) (hy : y ≤ x) : ∀ (m i : Nat) (C : Nat → Nat), i = slo + 1 + m → i + 1 ≤ k → (∀ j, bd (C j)) → hO2 slo i (k + 1) C x → C slo ≤ x → ∃ C1 j, (slo < j ∧ j ≤ k) ∧ hO1 slo j (k + 1) C1 y ∧ prm (slo + 1) (k + 1) (upN (upN C i y) (i + 1) x) (upN C1 j y) ∧ (∀ j, bd (C1 j)) ∧ C1 slo = C slo ∧
    L d 273 349 [some (.ref p), l1, l2, l3, l4, none, some (.int (iI i)), l7, l8, some (.long (lI x)), none] [] (lw h p N C, r) = L d 273 386 [some (.ref p), l1, l2, l3, l4, none, some (.int (iI j)), l7, l8, some (.long (lI x)), none] [] (lw h p N C1, r) := by
  intro m
  induction m with
  | zero =>
    intro i C hi hik hC hH hs
    obtain rfl : i = slo + 1 := by omega
    have e1 : ((slo + 1 : Nat) : Int) + -1 = ((slo : Nat) : Int) := by omega
    have e2 : ((slo : Nat) : Int) + 1 = ((slo + 1 : Nat) : Int) := by omega
    have e3 : ((slo + 1 : Nat) : Int) + 1 = ((slo + 1 + 1 : Nat) : Int) := by omega
    have b1 : C slo < 4398046511104 := hC _
    have b2 : x < 4398046511104 := hx
    refine ⟨upN C (slo + 1 + 1) x, slo + 1, by omega, hO2_e hH (by omega) (Or.inr hs) hy, prm_e (prm_r _ _ _) (upN_c (by omega)), upN_ok hx hC, upN_o (by omega), ?_⟩
    rw [r273_349]
    simp (disch := omega) only [r273_351, r273_351n, r273_352, r273_355, r273_357, r273_358, r273_359, r273_362, r273_362n, r273_363, r273_365, r273_366, r273_367, r273_367n, r273_368, r273_370, r273_371, r273_372, r273_375, r273_375n, r273_376, r273_379, r273_381, r273_382, r273_383, r273_385, iI_add, e1, lw_g, lc_ge, eL_le, hs, e2, e3, lw_s, lw_u, kl_n, kl_i, kl_r, kl_z, kl_l, kl_d, catS_0, catS_c, cat_i, cat_l, cat_d, cat_r, cat_n, kC_r, kC_x, Option.bind_some, Option.toList_some, Option.toList_none, List.cons_append, List.nil_append, gB0, gB1, gB2, gB3, gB4, rvB, nI_iI, i0, i1, l0_, wr_s, aup_s, and_true, true_and, and_self, eq_self, if_true, if_false, Nat.zero_le, Nat.reduceAdd, Nat.reduceLeDiff, gN_I, gN_L, gN_P, bI_0, bI_ok, z0, z1, Bool.true_eq, Bool.false_eq_true, not_true_eq_false, not_false_eq_true]
  | succ m ih =>
    intro i C hi hik hC hH hs
    obtain rfl : i = slo + 1 + m + 1 := by omega
    have e1 : ((slo + 1 + m + 1 : Nat) : Int) + -1 = ((slo + 1 + m : Nat) : Int) := by omega
    have e2 : ((slo + 1 + m : Nat) : Int) + 1 = ((slo + 1 + m + 1 : Nat) : Int) := by omega
    have e3 : ((slo + 1 + m + 1 : Nat) : Int) + 1 = ((slo + 1 + m + 1 + 1 : Nat) : Int) := by omega
    have e4 : ((slo + 1 + m : Nat) : Int) + 2 = ((slo + 1 + m + 1 + 1 : Nat) : Int) := by omega
    have b1 : C (slo + 1 + m) < 4398046511104 := hC _
    have b2 : x < 4398046511104 := hx
    by_cases q : C (slo + 1 + m) ≤ x
    · refine ⟨upN C (slo + 1 + m + 1 + 1) x, slo + 1 + m + 1, by omega, hO2_e hH (by omega) (Or.inr q) hy, prm_e (prm_r _ _ _) (upN_c (by omega)), upN_ok hx hC, upN_o (by omega), ?_⟩
      rw [r273_349]
      simp (disch := omega) only [r273_351, r273_351n, r273_352, r273_355, r273_357, r273_358, r273_359, r273_362, r273_362n, r273_363, r273_365, r273_366, r273_367, r273_367n, r273_368, r273_370, r273_371, r273_372, r273_375, r273_375n, r273_376, r273_379, r273_381, r273_382, r273_383, r273_385, iI_add, e1, lw_g, lc_ge, eL_le, q, e2, e3, lw_s, lw_u, kl_n, kl_i, kl_r, kl_z, kl_l, kl_d, catS_0, catS_c, cat_i, cat_l, cat_d, cat_r, cat_n, kC_r, kC_x, Option.bind_some, Option.toList_some, Option.toList_none, List.cons_append, List.nil_append, gB0, gB1, gB2, gB3, gB4, rvB, nI_iI, i0, i1, l0_, wr_s, aup_s, and_true, true_and, and_self, eq_self, if_true, if_false, Nat.zero_le, Nat.reduceAdd, Nat.reduceLeDiff, gN_I, gN_L, gN_P, bI_0, bI_ok, z0, z1, Bool.true_eq, Bool.false_eq_true, not_true_eq_false, not_false_eq_true]
    · have hg : x ≤ C (slo + 1 + m + 1 - 1) := by
        rw [Nat.add_sub_cancel]
        omega
      have p0 := two_s (a := slo + 1) (b := k + 1) (j := slo + 1 + m + 1) (x := x) (y := y) (C := C) (by omega) (by omega) (by omega)
      rw [show slo + 1 + m + 1 - 1 = slo + 1 + m from Nat.add_sub_cancel _ _] at p0
      obtain ⟨C1, j, hj, s1, p1, b3, o1, hl⟩ := ih (slo + 1 + m) (upN C (slo + 1 + m + 1 + 1) (C (slo + 1 + m))) rfl (by omega) (upN_ok b1 hC) (hO2_s hH (by omega) (by omega) hg) (by rw [upN_o (by omega)]; exact hs)
      refine ⟨C1, j, hj, s1, prm_t p0 p1, b3, by rw [o1, upN_o (by omega)], ?_⟩
      rw [r273_349]
      simp (disch := omega) only [r273_351, r273_351n, r273_352, r273_355, r273_357, r273_358, r273_359, r273_362, r273_362n, r273_363, r273_365, r273_366, r273_367, r273_367n, r273_368, r273_370, r273_371, r273_372, r273_375, r273_375n, r273_376, r273_379, r273_381, r273_382, r273_383, r273_385, iI_add, e1, lw_g, lc_ge, eL_le, q, e4, lw_s, lw_u, kl_n, kl_i, kl_r, kl_z, kl_l, kl_d, catS_0, catS_c, cat_i, cat_l, cat_d, cat_r, cat_n, kC_r, kC_x, Option.bind_some, Option.toList_some, Option.toList_none, List.cons_append, List.nil_append, gB0, gB1, gB2, gB3, gB4, rvB, nI_iI, i0, i1, l0_, wr_s, aup_s, and_true, true_and, and_self, eq_self, if_true, if_false, Nat.zero_le, Nat.reduceAdd, Nat.reduceLeDiff, gN_I, gN_L, gN_P, bI_0, bI_ok, z0, z1, Bool.true_eq, Bool.false_eq_true, not_true_eq_false, not_false_eq_true]
      exact hl
end
