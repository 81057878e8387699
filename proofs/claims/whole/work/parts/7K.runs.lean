/-! ===== the library looks for runs: one of them ===== -/
def des (C : Nat → Nat) (a b : Nat) : Prop := ∀ i j, a ≤ i → i < j → j < b → C j ≤ C i
theorem des_1 {C : Nat → Nat} {a b : Nat} (h : des C a b) (hb : b ≤ a ∨ C b ≤ C (b - 1)) : des C a (b + 1) := fun i j h1 h2 h3 => by
  by_cases e : j = b
  · rw [e]
    by_cases e2 : i = b - 1
    · rw [e2]
      exact hb.resolve_left (by omega)
    · have := h i (b - 1) h1 (by omega) (by omega)
      have := hb.resolve_left (by omega)
      omega
  · exact h i j h1 h2 (by omega)
/-- from a up to b all the same -/
def con (C : Nat → Nat) (a b : Nat) : Prop := ∀ i j, a ≤ i → i < b → a ≤ j → j < b → C i = C j
theorem con_sor {C : Nat → Nat} {a b : Nat} (h : con C a b) : sor C a b := fun i j h1 h2 h3 => Nat.le_of_eq (h i j h1 (by omega) (by omega) h3)
theorem con_des {C : Nat → Nat} {a b : Nat} (h : con C a b) : des C a b := fun i j h1 h2 h3 => Nat.le_of_eq (h j i (by omega) h3 h1 (by omega))
theorem con_1 {C : Nat → Nat} {a b : Nat} (h : con C a b) (hb : b ≤ a ∨ C (b - 1) = C b) : con C a (b + 1) := fun i j h1 h2 h3 h4 => by
  have key : ∀ i, a ≤ i → i < b + 1 → C i = C b := fun i h1 h2 => by
    by_cases e : i = b
    · rw [e]
    · rw [h i (b - 1) h1 (by omega) (by omega) (by omega)]
      exact hb.resolve_left (by omega)
  rw [key i h1 h2, key j h3 h4]
/-- half turned round -/
def RV (A0 A : Nat → Nat) (la K x y : Nat) : Prop := (la ≤ x ∧ x + y + 1 = la + K ∧ x ≤ y + 1) ∧ prm la K A0 A ∧ sor A la x ∧ sor A (y + 1) K ∧ des A x (y + 1) ∧ (∀ i j, la ≤ i → i < x → x ≤ j → j < K → A i ≤ A j) ∧ ∀ i j, la ≤ i → i < y + 1 → y + 1 ≤ j → j < K → A i ≤ A j
theorem RV_e {A0 A : Nat → Nat} {la K x y : Nat} (h : RV A0 A la K x y) (hxy : y ≤ x ∨ A x ≤ A y) : sor A la K := by
  obtain ⟨g, g1, g2, g3, g4, g5, g6⟩ := h
  have m : sor A x (y + 1) := fun i j h1 h2 h3 => by
    have hx := hxy.resolve_left (by omega)
    have a1 : A i ≤ A x := by
      by_cases e : i = x
      · rw [e]
        exact Nat.le_refl _
      · exact g4 x i (Nat.le_refl _) (by omega) (by omega)
    have a2 : A y ≤ A j := by
      by_cases e : j = y
      · rw [e]
        exact Nat.le_refl _
      · exact g4 j y (by omega) (by omega) (by omega)
    omega
  exact sor_2 (b := x) g2 (sor_2 (b := y + 1) m g3 (fun i j h1 h2 h3 h4 => g6 i j (by omega) h2 h3 h4)) g5
theorem RV_s {A0 A : Nat → Nat} {la K x y : Nat} (h : RV A0 A la K x (y + 1)) (hxy : x < y + 1) : RV A0 (upN (upN A x (A (y + 1))) (y + 1) (A x)) la K (x + 1) y := by
  obtain ⟨g, g1, g2, g3, g4, g5, g6⟩ := h
  have o : ∀ i, i ≠ x → i ≠ y + 1 → upN (upN A x (A (y + 1))) (y + 1) (A x) i = A i := fun i h1 h2 => by rw [upN_o h2, upN_o h1]
  have ox : upN (upN A x (A (y + 1))) (y + 1) (A x) x = A (y + 1) := by rw [upN_o (by omega), upN_at]
  have oy : upN (upN A x (A (y + 1))) (y + 1) (A x) (y + 1) = A x := upN_at
  refine ⟨by omega, prm_t g1 (prm_s (by omega) (by omega)), fun i j h1 h2 h3 => ?_, fun i j h1 h2 h3 => ?_, fun i j h1 h2 h3 => ?_, fun i j h1 h2 h3 h4 => ?_, fun i j h1 h2 h3 h4 => ?_⟩
  · rw [o i (by omega) (by omega)]
    by_cases e : j = x
    · rw [e, ox]
      exact g5 i (y + 1) h1 (by omega) (by omega) (by omega)
    · rw [o j e (by omega)]
      exact g2 i j h1 h2 (by omega)
  · rw [o j (by omega) (by omega)]
    by_cases e : i = y + 1
    · rw [e, oy]
      exact g6 x j (by omega) (by omega) (by omega) h3
    · rw [o i (by omega) e]
      exact g3 i j (by omega) h2 h3
  · rw [o i (by omega) (by omega), o j (by omega) (by omega)]
    exact g4 i j (by omega) h2 (by omega)
  · by_cases e : i = x
    · rw [e, ox]
      by_cases e2 : j = y + 1
      · rw [e2, oy]
        exact g4 x (y + 1) (Nat.le_refl _) hxy (by omega)
      · rw [o j (by omega) e2]
        by_cases e3 : j < y + 1
        · exact g4 j (y + 1) (by omega) e3 (by omega)
        · exact g6 (y + 1) j (by omega) (by omega) (by omega) h4
    · rw [o i e (by omega)]
      by_cases e2 : j = y + 1
      · rw [e2, oy]
        exact g5 i x h1 (by omega) (Nat.le_refl _) (by omega)
      · rw [o j (by omega) e2]
        exact g5 i j h1 (by omega) (by omega) h4
  · by_cases e2 : j = y + 1
    · rw [e2, oy]
      by_cases e : i = x
      · rw [e, ox]
        exact g4 x (y + 1) (Nat.le_refl _) hxy (by omega)
      · rw [o i e (by omega)]
        by_cases e3 : i < x
        · exact g5 i x h1 e3 (Nat.le_refl _) (by omega)
        · exact g4 x i (Nat.le_refl _) (by omega) (by omega)
    · rw [o j (by omega) e2]
      by_cases e : i = x
      · rw [e, ox]
        exact g6 (y + 1) j (by omega) (by omega) (by omega) h4
      · rw [o i e (by omega)]
        exact g6 i j h1 (by omega) (by omega) h4
section
variable {d : Nat} {h : aHf} {r : Nat × Nat × Nat × Nat} {p N n : Nat} {l0 l2 l3 l4 l6 : Option Value} {la : Int32} {A : Nat → Nat}
theorem asc_40 {a : Nat} {l9 l10 l11 l12 : Option Value} (hN : N ≤ 2000) (hn : n ≤ N) (hA : ∀ i, bd (A i)) : ∀ m k : Nat, k + 1 + m = n → sor A a (k + 1) → ∃ K, k < K ∧ K ≤ n ∧ sor A a K ∧
    L d 276 40 [l0, some (.ref p), l2, l3, l4, some (.int (iI n)), l6, some (.int la), some (.int (iI k)), l9, l10, l11, l12] [] (lw h p N A, r) = L d 276 208 [l0, some (.ref p), l2, l3, l4, some (.int (iI n)), l6, some (.int la), some (.int (iI K)), l9, l10, l11, l12] [] (lw h p N A, r) := by
  intro m
  induction m with
  | zero =>
    intro k hk hs
    obtain rfl : n = k + 1 := by omega
    have e1 : (k : Int) + 1 = ((k + 1 : Nat) : Int) := by omega
    refine ⟨k + 1, by omega, Nat.le_refl _, hs, ?_⟩
    rw [r276_40]
    simp (disch := omega) only [r276_43, r276_45, r276_47, r276_50, r276_50n, r276_51, r276_53, r276_54, r276_55, r276_56, r276_56n, r276_57, r276_59, r276_60, r276_61, r276_64, iI_add, e1, iI_le, Int.le_refl, kl_n, kl_i, kl_r, kl_z, kl_l, kl_d, catS_0, catS_c, cat_i, cat_l, cat_d, cat_r, cat_n, kC_r, kC_x, Option.bind_some, Option.toList_some, Option.toList_none, List.cons_append, List.nil_append, gB0, gB1, gB2, gB3, gB4, rvB, nI_iI, i0, i1, l0_, wr_s, aup_s, and_true, true_and, and_self, eq_self, if_true, if_false, Nat.zero_le, Nat.reduceAdd, Nat.reduceLeDiff, gN_I, gN_L, gN_P, bI_0, bI_ok, z0, z1, Bool.true_eq, Bool.false_eq_true, not_true_eq_false, not_false_eq_true]
  | succ m ih =>
    intro k hk hs
    have e1 : (k : Int) + 1 = ((k + 1 : Nat) : Int) := by omega
    have e2 : ((k + 1 : Nat) : Int) - 1 = ((k : Nat) : Int) := by omega
    have c1 : ¬ (n : Int) ≤ ((k + 1 : Nat) : Int) := by omega
    have b1 : A k < 4398046511104 := hA _
    have b2 : A (k + 1) < 4398046511104 := hA _
    by_cases q : A k ≤ A (k + 1)
    · have q3 : ¬ A (k + 1) < A k := by omega
      obtain ⟨K, k1, k2, k3, hl⟩ := ih (k + 1) (by omega) (sor_1 hs (Or.inr q))
      refine ⟨K, by omega, k2, k3, ?_⟩
      rw [r276_40]
      simp (disch := omega) only [r276_43, r276_45, r276_47, r276_50, r276_50n, r276_51, r276_53, r276_54, r276_55, r276_56, r276_56n, r276_57, r276_59, r276_60, r276_61, r276_64, iI_add, e1, iI_le, c1, iI_sub, e2, lw_g, lc_gt, eL_lt, q3, hl, kl_n, kl_i, kl_r, kl_z, kl_l, kl_d, catS_0, catS_c, cat_i, cat_l, cat_d, cat_r, cat_n, kC_r, kC_x, Option.bind_some, Option.toList_some, Option.toList_none, List.cons_append, List.nil_append, gB0, gB1, gB2, gB3, gB4, rvB, nI_iI, i0, i1, l0_, wr_s, aup_s, and_true, true_and, and_self, eq_self, if_true, if_false, Nat.zero_le, Nat.reduceAdd, Nat.reduceLeDiff, gN_I, gN_L, gN_P, bI_0, bI_ok, z0, z1, Bool.true_eq, Bool.false_eq_true, not_true_eq_false, not_false_eq_true]
    · have q3 : A (k + 1) < A k := by omega
      refine ⟨k + 1, by omega, by omega, hs, ?_⟩
      rw [r276_40]
      simp (disch := omega) only [r276_43, r276_45, r276_47, r276_50, r276_50n, r276_51, r276_53, r276_54, r276_55, r276_56, r276_56n, r276_57, r276_59, r276_60, r276_61, r276_64, iI_add, e1, iI_le, c1, iI_sub, e2, lw_g, lc_gt, eL_lt, q3, kl_n, kl_i, kl_r, kl_z, kl_l, kl_d, catS_0, catS_c, cat_i, cat_l, cat_d, cat_r, cat_n, kC_r, kC_x, Option.bind_some, Option.toList_some, Option.toList_none, List.cons_append, List.nil_append, gB0, gB1, gB2, gB3, gB4, rvB, nI_iI, i0, i1, l0_, wr_s, aup_s, and_true, true_and, and_self, eq_self, if_true, if_false, Nat.zero_le, Nat.reduceAdd, Nat.reduceLeDiff, gN_I, gN_L, gN_P, bI_0, bI_ok, z0, z1, Bool.true_eq, Bool.false_eq_true, not_true_eq_false, not_false_eq_true]
theorem dsc_81 {a : Nat} {l9 l10 l11 l12 : Option Value} (hN : N ≤ 2000) (hn : n ≤ N) (hA : ∀ i, bd (A i)) : ∀ m k : Nat, k + 1 + m = n → des A a (k + 1) → ∃ K, k < K ∧ K ≤ n ∧ des A a K ∧
    L d 276 81 [l0, some (.ref p), l2, l3, l4, some (.int (iI n)), l6, some (.int la), some (.int (iI k)), l9, l10, l11, l12] [] (lw h p N A, r) = L d 276 108 [l0, some (.ref p), l2, l3, l4, some (.int (iI n)), l6, some (.int la), some (.int (iI K)), l9, l10, l11, l12] [] (lw h p N A, r) := by
  intro m
  induction m with
  | zero =>
    intro k hk hs
    obtain rfl : n = k + 1 := by omega
    have e1 : (k : Int) + 1 = ((k + 1 : Nat) : Int) := by omega
    refine ⟨k + 1, by omega, Nat.le_refl _, hs, ?_⟩
    rw [r276_81]
    simp (disch := omega) only [r276_84, r276_86, r276_88, r276_91, r276_91n, r276_92, r276_94, r276_95, r276_96, r276_97, r276_97n, r276_98, r276_100, r276_101, r276_102, r276_105, iI_add, e1, iI_le, Int.le_refl, kl_n, kl_i, kl_r, kl_z, kl_l, kl_d, catS_0, catS_c, cat_i, cat_l, cat_d, cat_r, cat_n, kC_r, kC_x, Option.bind_some, Option.toList_some, Option.toList_none, List.cons_append, List.nil_append, gB0, gB1, gB2, gB3, gB4, rvB, nI_iI, i0, i1, l0_, wr_s, aup_s, and_true, true_and, and_self, eq_self, if_true, if_false, Nat.zero_le, Nat.reduceAdd, Nat.reduceLeDiff, gN_I, gN_L, gN_P, bI_0, bI_ok, z0, z1, Bool.true_eq, Bool.false_eq_true, not_true_eq_false, not_false_eq_true]
  | succ m ih =>
    intro k hk hs
    have e1 : (k : Int) + 1 = ((k + 1 : Nat) : Int) := by omega
    have e2 : ((k + 1 : Nat) : Int) - 1 = ((k : Nat) : Int) := by omega
    have c1 : ¬ (n : Int) ≤ ((k + 1 : Nat) : Int) := by omega
    have b1 : A k < 4398046511104 := hA _
    have b2 : A (k + 1) < 4398046511104 := hA _
    by_cases q : A (k + 1) ≤ A k
    · have q3 : ¬ A k < A (k + 1) := by omega
      obtain ⟨K, k1, k2, k3, hl⟩ := ih (k + 1) (by omega) (des_1 hs (Or.inr q))
      refine ⟨K, by omega, k2, k3, ?_⟩
      rw [r276_81]
      simp (disch := omega) only [r276_84, r276_86, r276_88, r276_91, r276_91n, r276_92, r276_94, r276_95, r276_96, r276_97, r276_97n, r276_98, r276_100, r276_101, r276_102, r276_105, iI_add, e1, iI_le, c1, iI_sub, e2, lw_g, lc_lt, eL_lt, q3, hl, kl_n, kl_i, kl_r, kl_z, kl_l, kl_d, catS_0, catS_c, cat_i, cat_l, cat_d, cat_r, cat_n, kC_r, kC_x, Option.bind_some, Option.toList_some, Option.toList_none, List.cons_append, List.nil_append, gB0, gB1, gB2, gB3, gB4, rvB, nI_iI, i0, i1, l0_, wr_s, aup_s, and_true, true_and, and_self, eq_self, if_true, if_false, Nat.zero_le, Nat.reduceAdd, Nat.reduceLeDiff, gN_I, gN_L, gN_P, bI_0, bI_ok, z0, z1, Bool.true_eq, Bool.false_eq_true, not_true_eq_false, not_false_eq_true]
    · have q3 : A k < A (k + 1) := by omega
      refine ⟨k + 1, by omega, by omega, hs, ?_⟩
      rw [r276_81]
      simp (disch := omega) only [r276_84, r276_86, r276_88, r276_91, r276_91n, r276_92, r276_94, r276_95, r276_96, r276_97, r276_97n, r276_98, r276_100, r276_101, r276_102, r276_105, iI_add, e1, iI_le, c1, iI_sub, e2, lw_g, lc_lt, eL_lt, q3, kl_n, kl_i, kl_r, kl_z, kl_l, kl_d, catS_0, catS_c, cat_i, cat_l, cat_d, cat_r, cat_n, kC_r, kC_x, Option.bind_some, Option.toList_some, Option.toList_none, List.cons_append, List.nil_append, gB0, gB1, gB2, gB3, gB4, rvB, nI_iI, i0, i1, l0_, wr_s, aup_s, and_true, true_and, and_self, eq_self, if_true, if_false, Nat.zero_le, Nat.reduceAdd, Nat.reduceLeDiff, gN_I, gN_L, gN_P, bI_0, bI_ok, z0, z1, Bool.true_eq, Bool.false_eq_true, not_true_eq_false, not_false_eq_true]
theorem cst_175 {a x : Nat} {l11 l12 : Option Value} (hN : N ≤ 2000) (hn : n ≤ N) (hx : bd x) (hA : ∀ i, bd (A i)) : ∀ m k : Nat, k + 1 + m = n → con A a (k + 1) → A k = x → ∃ K, k < K ∧ K ≤ n ∧ con A a K ∧
    L d 276 175 [l0, some (.ref p), l2, l3, l4, some (.int (iI n)), l6, some (.int la), some (.int (iI k)), some (.long (lI x)), none, l11, l12] [] (lw h p N A, r) = L d 276 198 [l0, some (.ref p), l2, l3, l4, some (.int (iI n)), l6, some (.int la), some (.int (iI K)), some (.long (lI x)), none, l11, l12] [] (lw h p N A, r) := by
  intro m
  induction m with
  | zero =>
    intro k hk hs hxk
    obtain rfl : n = k + 1 := by omega
    have e1 : (k : Int) + 1 = ((k + 1 : Nat) : Int) := by omega
    refine ⟨k + 1, by omega, Nat.le_refl _, hs, ?_⟩
    rw [r276_175]
    simp (disch := omega) only [r276_178, r276_180, r276_182, r276_185, r276_187, r276_187n, r276_188, r276_190, r276_191, r276_192, r276_195, iI_add, e1, iI_le, Int.le_refl, kl_n, kl_i, kl_r, kl_z, kl_l, kl_d, catS_0, catS_c, cat_i, cat_l, cat_d, cat_r, cat_n, kC_r, kC_x, Option.bind_some, Option.toList_some, Option.toList_none, List.cons_append, List.nil_append, gB0, gB1, gB2, gB3, gB4, rvB, nI_iI, i0, i1, l0_, wr_s, aup_s, and_true, true_and, and_self, eq_self, if_true, if_false, Nat.zero_le, Nat.reduceAdd, Nat.reduceLeDiff, gN_I, gN_L, gN_P, bI_0, bI_ok, z0, z1, Bool.true_eq, Bool.false_eq_true, not_true_eq_false, not_false_eq_true]
  | succ m ih =>
    intro k hk hs hxk
    have e1 : (k : Int) + 1 = ((k + 1 : Nat) : Int) := by omega
    have c1 : ¬ (n : Int) ≤ ((k + 1 : Nat) : Int) := by omega
    have b1 : x < 4398046511104 := hx
    have b2 : A (k + 1) < 4398046511104 := hA _
    by_cases q : x = A (k + 1)
    · obtain ⟨K, k1, k2, k3, hl⟩ := ih (k + 1) (by omega) (con_1 hs (Or.inr (by rw [Nat.add_sub_cancel, hxk, q]))) q.symm
      refine ⟨K, by omega, k2, k3, ?_⟩
      have q2 : (lI (x : Int) = lI (A (k + 1) : Int)) = True := by rw [q]; exact eq_self _
      rw [r276_175]
      simp (disch := omega) only [r276_178, r276_180, r276_182, r276_185, r276_187, r276_187n, r276_188, r276_190, r276_191, r276_192, r276_195, iI_add, e1, iI_le, c1, lw_g, lc_eq, q2, hl, kl_n, kl_i, kl_r, kl_z, kl_l, kl_d, catS_0, catS_c, cat_i, cat_l, cat_d, cat_r, cat_n, kC_r, kC_x, Option.bind_some, Option.toList_some, Option.toList_none, List.cons_append, List.nil_append, gB0, gB1, gB2, gB3, gB4, rvB, nI_iI, i0, i1, l0_, wr_s, aup_s, and_true, true_and, and_self, eq_self, if_true, if_false, Nat.zero_le, Nat.reduceAdd, Nat.reduceLeDiff, gN_I, gN_L, gN_P, bI_0, bI_ok, z0, z1, Bool.true_eq, Bool.false_eq_true, not_true_eq_false, not_false_eq_true]
    · refine ⟨k + 1, by omega, by omega, hs, ?_⟩
      rw [r276_175]
      simp (disch := omega) only [r276_178, r276_180, r276_182, r276_185, r276_187, r276_187n, r276_188, r276_190, r276_191, r276_192, r276_195, iI_add, e1, iI_le, c1, lw_g, lc_eq, eL_eq, q, kl_n, kl_i, kl_r, kl_z, kl_l, kl_d, catS_0, catS_c, cat_i, cat_l, cat_d, cat_r, cat_n, kC_r, kC_x, Option.bind_some, Option.toList_some, Option.toList_none, List.cons_append, List.nil_append, gB0, gB1, gB2, gB3, gB4, rvB, nI_iI, i0, i1, l0_, wr_s, aup_s, and_true, true_and, and_self, eq_self, if_true, if_false, Nat.zero_le, Nat.reduceAdd, Nat.reduceLeDiff, gN_I, gN_L, gN_P, bI_0, bI_ok, z0, z1, Bool.true_eq, Bool.false_eq_true, not_true_eq_false, not_false_eq_true]
theorem rev_118 {a K : Nat} {A0 : Nat → Nat} {z8 : Int32} {l5 : Option Value} (hN : N ≤ 2000) (hK : K ≤ N) : ∀ (m x y : Nat) (A : Nat → Nat), y + 1 ≤ x + m → (∀ i, bd (A i)) → RV A0 A a K x y → ∀ l11 l12 : Option Value, ∃ A' v9 v10 v11 v12, prm a K A0 A' ∧ sor A' a K ∧
    L d 276 118 [l0, some (.ref p), l2, l3, l4, l5, l6, some (.int la), some (.int z8), some (.int (iI ((x : Int) - 1))), some (.int (iI (y + 1 : Nat))), l11, l12] [] (lw h p N A, r) = L d 276 208 [l0, some (.ref p), l2, l3, l4, l5, l6, some (.int la), some (.int z8), v9, v10, v11, v12] [] (lw h p N A', r) := by
  intro m
  induction m with
  | zero =>
    intro x y A hm hA hR l11 l12
    have g := hR.1
    have e1 : (x : Int) - 1 + 1 = (x : Int) := by omega
    have e2 : ((y + 1 : Nat) : Int) + -1 = ((y : Nat) : Int) := by omega
    have c1 : (y : Int) ≤ x := by omega
    refine ⟨A, some (.int (iI x)), some (.int (iI y)), l11, l12, hR.2.1, RV_e hR (Or.inl (by omega)), ?_⟩
    rw [r276_118]
    simp (disch := omega) only [r276_121, r276_123, r276_126, r276_128, r276_131, r276_131n, r276_132, r276_134, r276_135, r276_135n, r276_136, r276_138, r276_139, r276_140, r276_143, r276_143n, r276_144, r276_146, r276_147, r276_149, r276_149n, r276_150, r276_152, r276_152n, r276_153, r276_155, r276_156, r276_157, r276_157n, r276_158, r276_160, r276_162, r276_163, r276_166, iI_add, e1, e2, iI_le, c1, kl_n, kl_i, kl_r, kl_z, kl_l, kl_d, catS_0, catS_c, cat_i, cat_l, cat_d, cat_r, cat_n, kC_r, kC_x, Option.bind_some, Option.toList_some, Option.toList_none, List.cons_append, List.nil_append, gB0, gB1, gB2, gB3, gB4, rvB, nI_iI, i0, i1, l0_, wr_s, aup_s, and_true, true_and, and_self, eq_self, if_true, if_false, Nat.zero_le, Nat.reduceAdd, Nat.reduceLeDiff, gN_I, gN_L, gN_P, bI_0, bI_ok, z0, z1, Bool.true_eq, Bool.false_eq_true, not_true_eq_false, not_false_eq_true]
  | succ m ih =>
    intro x y A hm hA hR l11 l12
    have g := hR.1
    have e1 : (x : Int) - 1 + 1 = (x : Int) := by omega
    have e2 : ((y + 1 : Nat) : Int) + -1 = ((y : Nat) : Int) := by omega
    have b1 : A x < 4398046511104 := hA _
    have b2 : A y < 4398046511104 := hA _
    by_cases q1 : y ≤ x
    · have c1 : (y : Int) ≤ x := by omega
      refine ⟨A, some (.int (iI x)), some (.int (iI y)), l11, l12, hR.2.1, RV_e hR (Or.inl q1), ?_⟩
      rw [r276_118]
      simp (disch := omega) only [r276_121, r276_123, r276_126, r276_128, r276_131, r276_131n, r276_132, r276_134, r276_135, r276_135n, r276_136, r276_138, r276_139, r276_140, r276_143, r276_143n, r276_144, r276_146, r276_147, r276_149, r276_149n, r276_150, r276_152, r276_152n, r276_153, r276_155, r276_156, r276_157, r276_157n, r276_158, r276_160, r276_162, r276_163, r276_166, iI_add, e1, e2, iI_le, c1, kl_n, kl_i, kl_r, kl_z, kl_l, kl_d, catS_0, catS_c, cat_i, cat_l, cat_d, cat_r, cat_n, kC_r, kC_x, Option.bind_some, Option.toList_some, Option.toList_none, List.cons_append, List.nil_append, gB0, gB1, gB2, gB3, gB4, rvB, nI_iI, i0, i1, l0_, wr_s, aup_s, and_true, true_and, and_self, eq_self, if_true, if_false, Nat.zero_le, Nat.reduceAdd, Nat.reduceLeDiff, gN_I, gN_L, gN_P, bI_0, bI_ok, z0, z1, Bool.true_eq, Bool.false_eq_true, not_true_eq_false, not_false_eq_true]
    · have c1 : ¬ (y : Int) ≤ x := by omega
      by_cases q2 : A x ≤ A y
      · refine ⟨A, some (.int (iI x)), some (.int (iI y)), l11, l12, hR.2.1, RV_e hR (Or.inr q2), ?_⟩
        rw [r276_118]
        simp (disch := omega) only [r276_121, r276_123, r276_126, r276_128, r276_131, r276_131n, r276_132, r276_134, r276_135, r276_135n, r276_136, r276_138, r276_139, r276_140, r276_143, r276_143n, r276_144, r276_146, r276_147, r276_149, r276_149n, r276_150, r276_152, r276_152n, r276_153, r276_155, r276_156, r276_157, r276_157n, r276_158, r276_160, r276_162, r276_163, r276_166, iI_add, e1, e2, iI_le, c1, lw_g, lc_le, eL_le, q2, kl_n, kl_i, kl_r, kl_z, kl_l, kl_d, catS_0, catS_c, cat_i, cat_l, cat_d, cat_r, cat_n, kC_r, kC_x, Option.bind_some, Option.toList_some, Option.toList_none, List.cons_append, List.nil_append, gB0, gB1, gB2, gB3, gB4, rvB, nI_iI, i0, i1, l0_, wr_s, aup_s, and_true, true_and, and_self, eq_self, if_true, if_false, Nat.zero_le, Nat.reduceAdd, Nat.reduceLeDiff, gN_I, gN_L, gN_P, bI_0, bI_ok, z0, z1, Bool.true_eq, Bool.false_eq_true, not_true_eq_false, not_false_eq_true]
      · obtain ⟨w, rfl⟩ : ∃ w, y = w + 1 := ⟨y - 1, by omega⟩
        obtain ⟨A', v9, v10, v11, v12, k1, k2, hl⟩ := ih (x + 1) w (upN (upN A x (A (w + 1))) (w + 1) (A x)) (by omega) (upN_ok b1 (upN_ok b2 hA)) (RV_s hR (by omega)) (some (.long (lI (A x)))) none
        rw [show ((x + 1 : Nat) : Int) - 1 = (x : Int) by omega] at hl
        refine ⟨A', v9, v10, v11, v12, k1, k2, ?_⟩
        rw [r276_118]
        simp (disch := omega) only [r276_121, r276_123, r276_126, r276_128, r276_131, r276_131n, r276_132, r276_134, r276_135, r276_135n, r276_136, r276_138, r276_139, r276_140, r276_143, r276_143n, r276_144, r276_146, r276_147, r276_149, r276_149n, r276_150, r276_152, r276_152n, r276_153, r276_155, r276_156, r276_157, r276_157n, r276_158, r276_160, r276_162, r276_163, r276_166, iI_add, e1, e2, iI_le, c1, lw_g, lc_le, eL_le, q2, lw_s, lw_u, hl, kl_n, kl_i, kl_r, kl_z, kl_l, kl_d, catS_0, catS_c, cat_i, cat_l, cat_d, cat_r, cat_n, kC_r, kC_x, Option.bind_some, Option.toList_some, Option.toList_none, List.cons_append, List.nil_append, gB0, gB1, gB2, gB3, gB4, rvB, nI_iI, i0, i1, l0_, wr_s, aup_s, and_true, true_and, and_self, eq_self, if_true, if_false, Nat.zero_le, Nat.reduceAdd, Nat.reduceLeDiff, gN_I, gN_L, gN_P, bI_0, bI_ok, z0, z1, Bool.true_eq, Bool.false_eq_true, not_true_eq_false, not_false_eq_true]
/-- one step: the same values go on, or a run has been found -/
theorem cl_19 {a k : Nat} (hN : N ≤ 2000) (hn : n ≤ N) (hA : ∀ i, bd (A i)) (hk : 1 ≤ k ∧ k < n) (ha : a ≤ k) (hc : con A a k) : ∀ l9 l10 l11 l12 : Option Value,
    (∃ K v9 v10 v11 v12, k < K ∧ K < n ∧ con A a K ∧ L d 276 19 [l0, some (.ref p), l2, l3, l4, some (.int (iI n)), l6, some (.int (iI a)), some (.int (iI k)), l9, l10, l11, l12] [] (lw h p N A, r) = L d 276 19 [l0, some (.ref p), l2, l3, l4, some (.int (iI n)), l6, some (.int (iI a)), some (.int (iI K)), v9, v10, v11, v12] [] (lw h p N A, r)) ∨
    (∃ K A' v9 v10 v11 v12, k < K ∧ K ≤ n ∧ prm a K A A' ∧ sor A' a K ∧ L d 276 19 [l0, some (.ref p), l2, l3, l4, some (.int (iI n)), l6, some (.int (iI a)), some (.int (iI k)), l9, l10, l11, l12] [] (lw h p N A, r) = L d 276 208 [l0, some (.ref p), l2, l3, l4, some (.int (iI n)), l6, some (.int (iI a)), some (.int (iI K)), v9, v10, v11, v12] [] (lw h p N A', r)) := by
  intro l9 l10 l11 l12
  obtain ⟨j, rfl⟩ : ∃ j, k = j + 1 := ⟨k - 1, by omega⟩
  have e1 : ((j + 1 : Nat) : Int) - 1 = ((j : Nat) : Int) := by omega
  have c1 : ¬ (n : Int) ≤ ((j + 1 : Nat) : Int) := by omega
  have b1 : A j < 4398046511104 := hA _
  have b2 : A (j + 1) < 4398046511104 := hA _
  have hj : j + 1 ≤ a ∨ True := Or.inr trivial
  by_cases q1 : A (j + 1) ≤ A j
  · by_cases q2 : A j ≤ A (j + 1)
    · -- the same values
      obtain ⟨K, k1, k2, k3, hl⟩ := cst_175 (d := d) (h := h) (r := r) (p := p) (N := N) (n := n) (l0 := l0) (l2 := l2) (l3 := l3) (l4 := l4) (l6 := l6) (la := iI a) (A := A) (a := a) (x := A (j + 1)) (l11 := l11) (l12 := l12) hN hn (hA _) hA (n - (j + 2)) (j + 1) (by omega) (con_1 hc (Or.inr (by rw [Nat.add_sub_cancel]; omega))) rfl
      have st : L d 276 19 [l0, some (.ref p), l2, l3, l4, some (.int (iI n)), l6, some (.int (iI a)), some (.int (iI (j + 1 : Nat))), l9, l10, l11, l12] [] (lw h p N A, r) = L d 276 198 [l0, some (.ref p), l2, l3, l4, some (.int (iI n)), l6, some (.int (iI a)), some (.int (iI K)), some (.long (lI (A (j + 1)))), none, l11, l12] [] (lw h p N A, r) := by
        rw [r276_19]
        simp (disch := omega) only [r276_21, r276_23, r276_26, r276_26n, r276_27, r276_29, r276_30, r276_31, r276_32, r276_32n, r276_33, r276_35, r276_36, r276_37, r276_67, r276_67n, r276_68, r276_70, r276_71, r276_72, r276_73, r276_73n, r276_74, r276_76, r276_77, r276_78, r276_169, r276_169n, r276_170, r276_172, r276_173, iI_le, c1, iI_sub, e1, lw_g, lc_ge, lc_le, eL_le, q1, q2, hl, kl_n, kl_i, kl_r, kl_z, kl_l, kl_d, catS_0, catS_c, cat_i, cat_l, cat_d, cat_r, cat_n, kC_r, kC_x, Option.bind_some, Option.toList_some, Option.toList_none, List.cons_append, List.nil_append, gB0, gB1, gB2, gB3, gB4, rvB, nI_iI, i0, i1, l0_, wr_s, aup_s, and_true, true_and, and_self, eq_self, if_true, if_false, Nat.zero_le, Nat.reduceAdd, Nat.reduceLeDiff, gN_I, gN_L, gN_P, bI_0, bI_ok, z0, z1, Bool.true_eq, Bool.false_eq_true, not_true_eq_false, not_false_eq_true]
      by_cases q3 : K < n
      · have c2 : ¬ (n : Int) ≤ K := by omega
        refine Or.inl ⟨K, some (.long (lI (A (j + 1)))), none, l11, l12, k1, q3, k3, ?_⟩
        rw [st]
        simp (disch := omega) only [r276_198, r276_200, r276_202, r276_205, iI_le, c2, kl_n, kl_i, kl_r, kl_z, kl_l, kl_d, catS_0, catS_c, cat_i, cat_l, cat_d, cat_r, cat_n, kC_r, kC_x, Option.bind_some, Option.toList_some, Option.toList_none, List.cons_append, List.nil_append, gB0, gB1, gB2, gB3, gB4, rvB, nI_iI, i0, i1, l0_, wr_s, aup_s, and_true, true_and, and_self, eq_self, if_true, if_false, Nat.zero_le, Nat.reduceAdd, Nat.reduceLeDiff, gN_I, gN_L, gN_P, bI_0, bI_ok, z0, z1, Bool.true_eq, Bool.false_eq_true, not_true_eq_false, not_false_eq_true]
      · have c2 : (n : Int) ≤ K := by omega
        refine Or.inr ⟨K, A, some (.long (lI (A (j + 1)))), none, l11, l12, k1, k2, prm_r _ _ _, con_sor k3, ?_⟩
        rw [st]
        simp (disch := omega) only [r276_198, r276_200, r276_202, r276_205, iI_le, c2, kl_n, kl_i, kl_r, kl_z, kl_l, kl_d, catS_0, catS_c, cat_i, cat_l, cat_d, cat_r, cat_n, kC_r, kC_x, Option.bind_some, Option.toList_some, Option.toList_none, List.cons_append, List.nil_append, gB0, gB1, gB2, gB3, gB4, rvB, nI_iI, i0, i1, l0_, wr_s, aup_s, and_true, true_and, and_self, eq_self, if_true, if_false, Nat.zero_le, Nat.reduceAdd, Nat.reduceLeDiff, gN_I, gN_L, gN_P, bI_0, bI_ok, z0, z1, Bool.true_eq, Bool.false_eq_true, not_true_eq_false, not_false_eq_true]
    · -- falling
      obtain ⟨K, k1, k2, k3, hl⟩ := dsc_81 (d := d) (h := h) (r := r) (p := p) (N := N) (n := n) (l0 := l0) (l2 := l2) (l3 := l3) (l4 := l4) (l6 := l6) (la := iI a) (A := A) (a := a) (l9 := l9) (l10 := l10) (l11 := l11) (l12 := l12) hN hn hA (n - (j + 2)) (j + 1) (by omega) (des_1 (con_des hc) (Or.inr (by rw [Nat.add_sub_cancel]; exact q1)))
      obtain ⟨w, rfl⟩ : ∃ w, K = w + 1 := ⟨K - 1, by omega⟩
      obtain ⟨A', v9, v10, v11, v12, m1, m2, hl2⟩ := rev_118 (d := d) (h := h) (r := r) (p := p) (N := N) (l0 := l0) (l2 := l2) (l3 := l3) (l4 := l4) (l6 := l6) (la := iI a) (a := a) (K := w + 1) (A0 := A) (z8 := iI (w + 1 : Nat)) (l5 := some (.int (iI n))) hN (by omega) (w + 1) a w A (by omega) hA ⟨by omega, prm_r _ _ _, sor_s (by omega), sor_s (by omega), k3, fun i j h1 h2 => by omega, fun i j h1 h2 h3 h4 => by omega⟩ l11 l12
      refine Or.inr ⟨w + 1, A', v9, v10, v11, v12, k1, k2, m1, m2, ?_⟩
      rw [r276_19]
      simp (disch := omega) only [r276_21, r276_23, r276_26, r276_26n, r276_27, r276_29, r276_30, r276_31, r276_32, r276_32n, r276_33, r276_35, r276_36, r276_37, r276_67, r276_67n, r276_68, r276_70, r276_71, r276_72, r276_73, r276_73n, r276_74, r276_76, r276_77, r276_78, iI_le, c1, iI_sub, e1, lw_g, lc_ge, lc_le, eL_le, q1, q2, hl, kl_n, kl_i, kl_r, kl_z, kl_l, kl_d, catS_0, catS_c, cat_i, cat_l, cat_d, cat_r, cat_n, kC_r, kC_x, Option.bind_some, Option.toList_some, Option.toList_none, List.cons_append, List.nil_append, gB0, gB1, gB2, gB3, gB4, rvB, nI_iI, i0, i1, l0_, wr_s, aup_s, and_true, true_and, and_self, eq_self, if_true, if_false, Nat.zero_le, Nat.reduceAdd, Nat.reduceLeDiff, gN_I, gN_L, gN_P, bI_0, bI_ok, z0, z1, Bool.true_eq, Bool.false_eq_true, not_true_eq_false, not_false_eq_true]
      simp (disch := omega) only [r276_108, r276_110, r276_111, r276_112, r276_114, r276_116, iI_sub, hl2, kl_n, kl_i, kl_r, kl_z, kl_l, kl_d, catS_0, catS_c, cat_i, cat_l, cat_d, cat_r, cat_n, kC_r, kC_x, Option.bind_some, Option.toList_some, Option.toList_none, List.cons_append, List.nil_append, gB0, gB1, gB2, gB3, gB4, rvB, nI_iI, i0, i1, l0_, wr_s, aup_s, and_true, true_and, and_self, eq_self, if_true, if_false, Nat.zero_le, Nat.reduceAdd, Nat.reduceLeDiff, gN_I, gN_L, gN_P, bI_0, bI_ok, z0, z1, Bool.true_eq, Bool.false_eq_true, not_true_eq_false, not_false_eq_true]
  · -- rising
    have hs2 : sor A a (j + 1 + 1) := sor_1 (con_sor hc) (Or.inr (by rw [Nat.add_sub_cancel]; omega))
    obtain ⟨K, k1, k2, k3, hl⟩ := asc_40 (d := d) (h := h) (r := r) (p := p) (N := N) (n := n) (l0 := l0) (l2 := l2) (l3 := l3) (l4 := l4) (l6 := l6) (la := iI a) (A := A) (a := a) (l9 := l9) (l10 := l10) (l11 := l11) (l12 := l12) hN hn hA (n - (j + 2)) (j + 1) (by omega) hs2
    refine Or.inr ⟨K, A, l9, l10, l11, l12, k1, k2, prm_r _ _ _, k3, ?_⟩
    rw [r276_19]
    simp (disch := omega) only [r276_21, r276_23, r276_26, r276_26n, r276_27, r276_29, r276_30, r276_31, r276_32, r276_32n, r276_33, r276_35, r276_36, r276_37, iI_le, c1, iI_sub, e1, lw_g, lc_ge, eL_le, q1, hl, kl_n, kl_i, kl_r, kl_z, kl_l, kl_d, catS_0, catS_c, cat_i, cat_l, cat_d, cat_r, cat_n, kC_r, kC_x, Option.bind_some, Option.toList_some, Option.toList_none, List.cons_append, List.nil_append, gB0, gB1, gB2, gB3, gB4, rvB, nI_iI, i0, i1, l0_, wr_s, aup_s, and_true, true_and, and_self, eq_self, if_true, if_false, Nat.zero_le, Nat.reduceAdd, Nat.reduceLeDiff, gN_I, gN_L, gN_P, bI_0, bI_ok, z0, z1, Bool.true_eq, Bool.false_eq_true, not_true_eq_false, not_false_eq_true]
end
