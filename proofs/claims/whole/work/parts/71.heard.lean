/-! ===== the reference: tracks ===== -/
/-- the tracks as they lie in the row of all numbers -/
def trA (A : Nat → Int32) (T : Nat → Nat) (S D : Nat → Int) : Prop := ∀ t, t < 6 → A (301 + 4 * t) = iI (T t % 2 : Nat) ∧ A (302 + 4 * t) = iI (T t / 2 : Nat) ∧ A (303 + 4 * t) = iI (S t) ∧ A (304 + 4 * t) = iI (D t)
def anB (T : Nat → Nat) : Nat → Bool
  | 0 => false
  | k + 1 => anB T k || (T k / 2 == 1)
theorem anB_iff (T : Nat → Nat) : ∀ k, anB T k = true ↔ ∃ j, j < k ∧ T j / 2 = 1
  | 0 => ⟨fun h => Bool.noConfusion h, fun ⟨j, h, _⟩ => absurd h (Nat.not_lt_zero j)⟩
  | k + 1 => by
    show (anB T k || (T k / 2 == 1)) = true ↔ _
    rw [Bool.or_eq_true, anB_iff T k, beq_iff_eq]
    constructor
    · intro h
      rcases h with ⟨j, h1, h2⟩ | h
      · exact ⟨j, by omega, h2⟩
      · exact ⟨k, by omega, h⟩
    · intro ⟨j, h1, h2⟩
      by_cases e : j = k
      · rw [e] at h2
        exact Or.inr h2
      · exact Or.inl ⟨j, by omega, h2⟩
theorem an_no {T : Nat → Nat} (hT : ∀ t, T t < 4) : noAl T 0 6 = true ↔ ¬ anB T 6 = true := by
  unfold noAl
  rw [alR_0, anB_iff]
  constructor
  · intro h ⟨j, h1, h2⟩
    have := beq_iff_eq.mp (h j h1)
    omega
  · intro h j hj
    have h1 := hT j
    refine beq_iff_eq.mpr ?_
    by_cases e : T j / 2 = 1
    · exact absurd ⟨j, hj, e⟩ h
    · omega
theorem or_1 {p : Prop} [Decidable p] : bI p ||| iI 1 = iI 1 := by
  unfold bI
  split <;> decide
theorem or_0 {p : Prop} [Decidable p] : bI p ||| iI 0 = bI p := by
  unfold bI
  split <;> decide
section
variable {d : Nat} {h : aHf} {r : Nat × Nat × Nat × Nat} {y : Nat} {M : Md} {T : Nat → Nat} {S D : Nat → Int}
theorem r_track {t j : Nat} (ht : t < 6) (hj : j < 4) : aE (d + 1) 218 [.ref y, .int (iI t), .int (iI j)] (mdW h y M, r) = some (.inl (some (.int (M.2.1 (301 + 4 * t + j)))), (mdW h y M, r)) := by
  have e1 : 301 + 4 * (t : Int) + (j : Int) = ((301 + 4 * t + j : Nat) : Int) := by omega
  have gi : gI (some (aI .int 385 M.2.1)) (iI ((301 + 4 * t + j : Nat) : Int)) = some (M.2.1 (301 + 4 * t + j)) := gI_N (by omega) (by omega)
  simp only [e218, r218_0, r218_1, r218_4, r218_7, r218_8, r218_9, r218_10, r218_11, r218_12, r218_13, r218_14, md_0, md_1, iI_mul, iI_add, e1, gi, kl_n, kl_i, kl_r, kl_z, kl_l, kl_d, catS_0, catS_c, cat_i, cat_l, cat_d, cat_r, cat_n, kC_r, kC_x, Option.bind_some, Option.toList_some, Option.toList_none, List.cons_append, List.nil_append, gB0, gB1, gB2, gB3, gB4, rvB, nI_iI, i0, i1, l0_, wr_s, aup_s, and_true, true_and, and_self, eq_self, if_true, if_false, Nat.zero_le, Nat.reduceAdd, Nat.reduceLeDiff, gN_I, gN_L, gN_P, bI_0, bI_ok, z0, z1, Bool.true_eq, Bool.false_eq_true, not_true_eq_false, not_false_eq_true]
theorem r_tr0 {t : Nat} (hA : trA M.2.1 T S D) (ht : t < 6) : aE (d + 1) 218 [.ref y, .int (iI t), .int (iI 0)] (mdW h y M, r) = some (.inl (some (.int (iI (T t % 2 : Nat)))), (mdW h y M, r)) := by
  have e := r_track (d := d) (h := h) (r := r) (y := y) (M := M) (j := 0) ht (by omega)
  rw [show 301 + 4 * t + 0 = 301 + 4 * t from rfl, (hA t ht).1] at e
  exact e
theorem r_tr1 {t : Nat} (hA : trA M.2.1 T S D) (ht : t < 6) : aE (d + 1) 218 [.ref y, .int (iI t), .int (iI 1)] (mdW h y M, r) = some (.inl (some (.int (iI (T t / 2 : Nat)))), (mdW h y M, r)) := by
  have e := r_track (d := d) (h := h) (r := r) (y := y) (M := M) (j := 1) ht (by omega)
  rw [show 301 + 4 * t + 1 = 302 + 4 * t by omega, (hA t ht).2.1] at e
  exact e
theorem r_tr2 {t : Nat} (hA : trA M.2.1 T S D) (ht : t < 6) : aE (d + 1) 218 [.ref y, .int (iI t), .int (iI 2)] (mdW h y M, r) = some (.inl (some (.int (iI (S t)))), (mdW h y M, r)) := by
  have e := r_track (d := d) (h := h) (r := r) (y := y) (M := M) (j := 2) ht (by omega)
  rw [show 301 + 4 * t + 2 = 303 + 4 * t by omega, (hA t ht).2.2.1] at e
  exact e
theorem r_tr3 {t : Nat} (hA : trA M.2.1 T S D) (ht : t < 6) : aE (d + 1) 218 [.ref y, .int (iI t), .int (iI 3)] (mdW h y M, r) = some (.inl (some (.int (iI (D t)))), (mdW h y M, r)) := by
  have e := r_track (d := d) (h := h) (r := r) (y := y) (M := M) (j := 3) ht (by omega)
  rw [show 301 + 4 * t + 3 = 304 + 4 * t by omega, (hA t ht).2.2.2] at e
  exact e
theorem hd_loop {t : Nat} {o : Int32} (hA : trA M.2.1 T S D) (hT : ∀ t, T t < 4) (ht : t < 6) : ∀ m i : Nat, i + m = 6 → L (d + 1) 237 20 [some (.ref y), some (.int (iI t)), some (.int o), some (.int (bI (anB T i = true))), some (.int (iI i))] [] (mdW h y M, r) = some (.inl (some (.int (bI (hrd T t)))), (mdW h y M, r)) := by
  intro m
  induction m with
  | zero =>
    intro i hi
    obtain rfl : i = 6 := by omega
    have c1 : (6 : Int) ≤ ((6 : Nat) : Int) := by omega
    have h4 := hT t
    have an := an_no hT
    rw [r237_20]
    by_cases q1 : T t % 2 = 0
    · have p1 : ((T t % 2 : Nat) : Int) = 0 := by omega
      by_cases q2 : anB T 6 = true
      · by_cases q3 : T t / 2 = 1
        · have p3 : ((T t / 2 : Nat) : Int) = 1 := by omega
          simp (disch := omega) only [r237_0, r237_1, r237_4, r237_5, r237_6, r237_9, r237_10, r237_13, r237_14, r237_15, r237_16, r237_17, r237_18, r237_22, r237_24, r237_27, r237_28, r237_29, r237_31, r237_32, r237_35, r237_36, r237_39, r237_40, r237_43, r237_44, r237_45, r237_46, r237_49, r237_52, r237_53, r237_54, r237_55, r237_58, r237_61, r237_62, r237_65, r237_66, r237_67, r237_68, r237_71, r237_72, r237_75, r237_76, r237_79, r237_80, iI_le, c1, md_0, r_tr0 hA ht, iI_eq, p1, q2, r_tr1 hA ht, p3, kl_n, kl_i, kl_r, kl_z, kl_l, kl_d, catS_0, catS_c, cat_i, cat_l, cat_d, cat_r, cat_n, kC_r, kC_x, Option.bind_some, Option.toList_some, Option.toList_none, List.cons_append, List.nil_append, gB0, gB1, gB2, gB3, gB4, rvB, nI_iI, i0, i1, l0_, wr_s, aup_s, and_true, true_and, and_self, eq_self, if_true, if_false, Nat.zero_le, Nat.reduceAdd, Nat.reduceLeDiff, gN_I, gN_L, gN_P, bI_0, bI_ok, z0, z1, Bool.true_eq, Bool.false_eq_true, not_true_eq_false, not_false_eq_true]
          exact fin_T ⟨q1, Or.inl q3⟩
        · have p3 : ¬ ((T t / 2 : Nat) : Int) = 1 := by omega
          simp (disch := omega) only [r237_0, r237_1, r237_4, r237_5, r237_6, r237_9, r237_10, r237_13, r237_14, r237_15, r237_16, r237_17, r237_18, r237_22, r237_24, r237_27, r237_28, r237_29, r237_31, r237_32, r237_35, r237_36, r237_39, r237_40, r237_43, r237_44, r237_45, r237_46, r237_49, r237_52, r237_53, r237_54, r237_55, r237_58, r237_61, r237_62, r237_65, r237_66, r237_67, r237_68, r237_71, r237_72, r237_75, r237_76, r237_79, r237_80, iI_le, c1, md_0, r_tr0 hA ht, iI_eq, p1, q2, r_tr1 hA ht, p3, kl_n, kl_i, kl_r, kl_z, kl_l, kl_d, catS_0, catS_c, cat_i, cat_l, cat_d, cat_r, cat_n, kC_r, kC_x, Option.bind_some, Option.toList_some, Option.toList_none, List.cons_append, List.nil_append, gB0, gB1, gB2, gB3, gB4, rvB, nI_iI, i0, i1, l0_, wr_s, aup_s, and_true, true_and, and_self, eq_self, if_true, if_false, Nat.zero_le, Nat.reduceAdd, Nat.reduceLeDiff, gN_I, gN_L, gN_P, bI_0, bI_ok, z0, z1, Bool.true_eq, Bool.false_eq_true, not_true_eq_false, not_false_eq_true]
          exact fin_F (fun z => z.2.elim q3 (fun w => an.mp w q2))
      · simp (disch := omega) only [r237_0, r237_1, r237_4, r237_5, r237_6, r237_9, r237_10, r237_13, r237_14, r237_15, r237_16, r237_17, r237_18, r237_22, r237_24, r237_27, r237_28, r237_29, r237_31, r237_32, r237_35, r237_36, r237_39, r237_40, r237_43, r237_44, r237_45, r237_46, r237_49, r237_52, r237_53, r237_54, r237_55, r237_58, r237_61, r237_62, r237_65, r237_66, r237_67, r237_68, r237_71, r237_72, r237_75, r237_76, r237_79, r237_80, iI_le, c1, md_0, r_tr0 hA ht, iI_eq, p1, q2, kl_n, kl_i, kl_r, kl_z, kl_l, kl_d, catS_0, catS_c, cat_i, cat_l, cat_d, cat_r, cat_n, kC_r, kC_x, Option.bind_some, Option.toList_some, Option.toList_none, List.cons_append, List.nil_append, gB0, gB1, gB2, gB3, gB4, rvB, nI_iI, i0, i1, l0_, wr_s, aup_s, and_true, true_and, and_self, eq_self, if_true, if_false, Nat.zero_le, Nat.reduceAdd, Nat.reduceLeDiff, gN_I, gN_L, gN_P, bI_0, bI_ok, z0, z1, Bool.true_eq, Bool.false_eq_true, not_true_eq_false, not_false_eq_true]
        exact fin_T ⟨q1, Or.inr (an.mpr q2)⟩
    · have p1 : ¬ ((T t % 2 : Nat) : Int) = 0 := by omega
      simp (disch := omega) only [r237_0, r237_1, r237_4, r237_5, r237_6, r237_9, r237_10, r237_13, r237_14, r237_15, r237_16, r237_17, r237_18, r237_22, r237_24, r237_27, r237_28, r237_29, r237_31, r237_32, r237_35, r237_36, r237_39, r237_40, r237_43, r237_44, r237_45, r237_46, r237_49, r237_52, r237_53, r237_54, r237_55, r237_58, r237_61, r237_62, r237_65, r237_66, r237_67, r237_68, r237_71, r237_72, r237_75, r237_76, r237_79, r237_80, iI_le, c1, md_0, r_tr0 hA ht, iI_eq, p1, kl_n, kl_i, kl_r, kl_z, kl_l, kl_d, catS_0, catS_c, cat_i, cat_l, cat_d, cat_r, cat_n, kC_r, kC_x, Option.bind_some, Option.toList_some, Option.toList_none, List.cons_append, List.nil_append, gB0, gB1, gB2, gB3, gB4, rvB, nI_iI, i0, i1, l0_, wr_s, aup_s, and_true, true_and, and_self, eq_self, if_true, if_false, Nat.zero_le, Nat.reduceAdd, Nat.reduceLeDiff, gN_I, gN_L, gN_P, bI_0, bI_ok, z0, z1, Bool.true_eq, Bool.false_eq_true, not_true_eq_false, not_false_eq_true]
      exact fin_F (fun z => q1 z.1)
  | succ m ih =>
    intro i hi
    have c1 : ¬ (6 : Int) ≤ (i : Int) := by omega
    have e1 : (i : Int) + 1 = ((i + 1 : Nat) : Int) := by omega
    have h4 := hT i
    have h9 := ih (i + 1) (by omega)
    rw [r237_20]
    by_cases q : T i / 2 = 1
    · have p3 : ((T i / 2 : Nat) : Int) = 1 := by omega
      have e4 : anB T (i + 1) = true := by
        show (anB T i || (T i / 2 == 1)) = true
        rw [beq_iff_eq.mpr q, Bool.or_true]
      rw [show bI (anB T (i + 1) = true) = iI 1 from (bI_T e4).symm] at h9
      simp (disch := omega) only [r237_0, r237_1, r237_4, r237_5, r237_6, r237_9, r237_10, r237_13, r237_14, r237_15, r237_16, r237_17, r237_18, r237_22, r237_24, r237_27, r237_28, r237_29, r237_31, r237_32, r237_35, r237_36, r237_39, r237_40, r237_43, r237_44, r237_45, r237_46, r237_49, r237_52, r237_53, r237_54, r237_55, r237_58, r237_61, r237_62, r237_65, r237_66, r237_67, r237_68, r237_71, r237_72, r237_75, r237_76, r237_79, r237_80, iI_le, c1, md_0, r_tr1 hA (show i < 6 by omega), iI_eq, p3, or_1, iI_add, e1, h9, kl_n, kl_i, kl_r, kl_z, kl_l, kl_d, catS_0, catS_c, cat_i, cat_l, cat_d, cat_r, cat_n, kC_r, kC_x, Option.bind_some, Option.toList_some, Option.toList_none, List.cons_append, List.nil_append, gB0, gB1, gB2, gB3, gB4, rvB, nI_iI, i0, i1, l0_, wr_s, aup_s, and_true, true_and, and_self, eq_self, if_true, if_false, Nat.zero_le, Nat.reduceAdd, Nat.reduceLeDiff, gN_I, gN_L, gN_P, bI_0, bI_ok, z0, z1, Bool.true_eq, Bool.false_eq_true, not_true_eq_false, not_false_eq_true]
    · have p3 : ¬ ((T i / 2 : Nat) : Int) = 1 := by omega
      have e4 : anB T (i + 1) = anB T i := by
        show (anB T i || (T i / 2 == 1)) = anB T i
        rw [beq_eq_false_iff_ne.mpr q, Bool.or_false]
      rw [e4] at h9
      simp (disch := omega) only [r237_0, r237_1, r237_4, r237_5, r237_6, r237_9, r237_10, r237_13, r237_14, r237_15, r237_16, r237_17, r237_18, r237_22, r237_24, r237_27, r237_28, r237_29, r237_31, r237_32, r237_35, r237_36, r237_39, r237_40, r237_43, r237_44, r237_45, r237_46, r237_49, r237_52, r237_53, r237_54, r237_55, r237_58, r237_61, r237_62, r237_65, r237_66, r237_67, r237_68, r237_71, r237_72, r237_75, r237_76, r237_79, r237_80, iI_le, c1, md_0, r_tr1 hA (show i < 6 by omega), iI_eq, p3, or_0, iI_add, e1, h9, kl_n, kl_i, kl_r, kl_z, kl_l, kl_d, catS_0, catS_c, cat_i, cat_l, cat_d, cat_r, cat_n, kC_r, kC_x, Option.bind_some, Option.toList_some, Option.toList_none, List.cons_append, List.nil_append, gB0, gB1, gB2, gB3, gB4, rvB, nI_iI, i0, i1, l0_, wr_s, aup_s, and_true, true_and, and_self, eq_self, if_true, if_false, Nat.zero_le, Nat.reduceAdd, Nat.reduceLeDiff, gN_I, gN_L, gN_P, bI_0, bI_ok, z0, z1, Bool.true_eq, Bool.false_eq_true, not_true_eq_false, not_false_eq_true]
theorem r_isHeard {t : Nat} (hA : trA M.2.1 T S D) (hT : ∀ t, T t < 4) (ht : t < 6) : aE (d + 2) 237 [.ref y, .int (iI t), .int (iI (-1))] (mdW h y M, r) = some (.inl (some (.int (bI (hrd T t)))), (mdW h y M, r)) := by
  have hl := hd_loop (d := d) (h := h) (r := r) (y := y) (o := iI (-1)) hA hT ht 6 0 (by omega)
  rw [show ((0 : Nat) : Int) = 0 from rfl, show bI (anB T 0 = true) = iI 0 from rfl] at hl
  have q1 : (-1 : Int) < 0 := by omega
  simp (disch := omega) only [e237, r237_0, r237_1, r237_4, r237_5, r237_6, r237_9, r237_10, r237_13, r237_14, r237_15, r237_16, r237_17, r237_18, iI_lt, iI_le, q1, hl, kl_n, kl_i, kl_r, kl_z, kl_l, kl_d, catS_0, catS_c, cat_i, cat_l, cat_d, cat_r, cat_n, kC_r, kC_x, Option.bind_some, Option.toList_some, Option.toList_none, List.cons_append, List.nil_append, gB0, gB1, gB2, gB3, gB4, rvB, nI_iI, i0, i1, l0_, wr_s, aup_s, and_true, true_and, and_self, eq_self, if_true, if_false, Nat.zero_le, Nat.reduceAdd, Nat.reduceLeDiff, gN_I, gN_L, gN_P, bI_0, bI_ok, z0, z1, Bool.true_eq, Bool.false_eq_true, not_true_eq_false, not_false_eq_true]
theorem r_isHeardO {t o : Nat} (ht : t < 8) (ho : o < 6) : aE (d + 2) 237 [.ref y, .int (iI t), .int (iI o)] (mdW h y M, r) = some (.inl (some (.int (bI (t = o)))), (mdW h y M, r)) := by
  have q1 : ¬ (o : Int) < 0 := by omega
  by_cases q : t = o
  · have q2 : (t : Int) = o := by omega
    simp (disch := omega) only [e237, r237_0, r237_1, r237_4, r237_5, r237_6, r237_9, r237_10, r237_13, r237_14, r237_15, r237_16, r237_17, r237_18, iI_lt, iI_le, q1, iI_eq, q2, kl_n, kl_i, kl_r, kl_z, kl_l, kl_d, catS_0, catS_c, cat_i, cat_l, cat_d, cat_r, cat_n, kC_r, kC_x, Option.bind_some, Option.toList_some, Option.toList_none, List.cons_append, List.nil_append, gB0, gB1, gB2, gB3, gB4, rvB, nI_iI, i0, i1, l0_, wr_s, aup_s, and_true, true_and, and_self, eq_self, if_true, if_false, Nat.zero_le, Nat.reduceAdd, Nat.reduceLeDiff, gN_I, gN_L, gN_P, bI_0, bI_ok, z0, z1, Bool.true_eq, Bool.false_eq_true, not_true_eq_false, not_false_eq_true]
    exact fin_T q
  · have q2 : ¬ (t : Int) = o := by omega
    simp (disch := omega) only [e237, r237_0, r237_1, r237_4, r237_5, r237_6, r237_9, r237_10, r237_13, r237_14, r237_15, r237_16, r237_17, r237_18, iI_lt, iI_le, q1, iI_eq, q2, kl_n, kl_i, kl_r, kl_z, kl_l, kl_d, catS_0, catS_c, cat_i, cat_l, cat_d, cat_r, cat_n, kC_r, kC_x, Option.bind_some, Option.toList_some, Option.toList_none, List.cons_append, List.nil_append, gB0, gB1, gB2, gB3, gB4, rvB, nI_iI, i0, i1, l0_, wr_s, aup_s, and_true, true_and, and_self, eq_self, if_true, if_false, Nat.zero_le, Nat.reduceAdd, Nat.reduceLeDiff, gN_I, gN_L, gN_P, bI_0, bI_ok, z0, z1, Bool.true_eq, Bool.false_eq_true, not_true_eq_false, not_false_eq_true]
    exact fin_F q
end
