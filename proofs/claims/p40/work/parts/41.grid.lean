/-! ===== drawn to a grid; the clipboard ===== -/
/-- the line with a number -/
def lnI (s p : Nat) (k : Int) : Int := k * s + (if k % 2 = 1 then ((s * p / 100 : Nat) : Int) else 0)
/-- one line looked at: best and least -/
def nlS (a s p : Nat) (k : Int) (e : Int × Int) : Int × Int :=
  if (0 ≤ lnI s p k ∧ lnI s p k ≤ 9599) ∧ ((lnI s p k - a).natAbs : Int) < e.2 then (lnI s p k, ((lnI s p k - a).natAbs : Int)) else e
def nlR (a s p : Nat) : Nat → Int → Int × Int → Int × Int
  | 0, _, e => e
  | m + 1, k, e => nlR a s p m (k + 1) (nlS a s p k e)
def nrI (a s p : Nat) : Int := (nlR a s p 3 ((a / s : Nat) - 1) (a, 9600)).1
def drI (a s p q : Nat) : Int := a + ((nrI a s p - a) * q).tdiv 100
theorem nlS_b {a s p : Nat} {k : Int} {e : Int × Int} (h1 : 0 ≤ e.1 ∧ e.1 ≤ 16383) (h2 : 0 ≤ e.2 ∧ e.2 ≤ 30000) : (0 ≤ (nlS a s p k e).1 ∧ (nlS a s p k e).1 ≤ 16383) ∧ (0 ≤ (nlS a s p k e).2 ∧ (nlS a s p k e).2 ≤ 30000) := by
  unfold nlS
  split
  · rename_i q
    obtain ⟨q1, q2⟩ := q
    show (0 ≤ lnI s p k ∧ lnI s p k ≤ 16383) ∧ (0 ≤ ((lnI s p k - a).natAbs : Int) ∧ ((lnI s p k - a).natAbs : Int) ≤ 30000)
    omega
  · exact ⟨h1, h2⟩
theorem nlR_b {a s p : Nat} : ∀ (m : Nat) (k : Int) (e : Int × Int), (0 ≤ e.1 ∧ e.1 ≤ 16383) → (0 ≤ e.2 ∧ e.2 ≤ 30000) → (0 ≤ (nlR a s p m k e).1 ∧ (nlR a s p m k e).1 ≤ 16383)
  | 0, _, _, h1, _ => h1
  | m + 1, k, e, h1, h2 => nlR_b m (k + 1) _ (nlS_b h1 h2).1 (nlS_b h1 h2).2
theorem nlS_t {a s p : Nat} {k : Int} {e : Int × Int} (h1 : 0 ≤ e.1 ∧ e.1 ≤ 9599) : 0 ≤ (nlS a s p k e).1 ∧ (nlS a s p k e).1 ≤ 9599 := by
  unfold nlS
  split
  · rename_i q
    exact q.1
  · exact h1
theorem nlR_t {a s p : Nat} : ∀ (m : Nat) (k : Int) (e : Int × Int), (0 ≤ e.1 ∧ e.1 ≤ 9599) → (0 ≤ (nlR a s p m k e).1 ∧ (nlR a s p m k e).1 ≤ 9599)
  | 0, _, _, h1 => h1
  | m + 1, k, e, h1 => nlR_t m (k + 1) _ (nlS_t h1)
theorem nrI_b {a s p : Nat} (ha : a ≤ 16383) : 0 ≤ nrI a s p ∧ nrI a s p ≤ 16383 := nlR_b 3 _ _ (by show 0 ≤ (a : Int) ∧ (a : Int) ≤ 16383; omega) (by show 0 ≤ (9600 : Int) ∧ (9600 : Int) ≤ 30000; omega)
theorem nrI_t {a s p : Nat} (ha : a ≤ 9599) : 0 ≤ nrI a s p ∧ nrI a s p ≤ 9599 := nlR_t 3 _ _ (by show 0 ≤ (a : Int) ∧ (a : Int) ≤ 9599; omega)
theorem tdv_b {z q : Int} (h1 : 0 ≤ q) (h2 : q ≤ 100) : (0 ≤ z → 0 ≤ (z * q).tdiv 100 ∧ (z * q).tdiv 100 ≤ z) ∧ (z < 0 → z ≤ (z * q).tdiv 100 ∧ (z * q).tdiv 100 ≤ 0) := by
  constructor
  · intro hz
    have a1 : 0 ≤ z * q := Int.mul_nonneg hz h1
    have a2 : z * q ≤ z * 100 := Int.mul_le_mul_of_nonneg_left h2 hz
    rw [Int.tdiv_eq_ediv_of_nonneg a1]
    generalize z * q = y at a1 a2
    omega
  · intro hz
    have a1 : 0 ≤ (-z) * q := Int.mul_nonneg (by omega) h1
    have a2 : (-z) * q ≤ (-z) * 100 := Int.mul_le_mul_of_nonneg_left h2 (by omega)
    have e : z * q = -((-z) * q) := by rw [Int.neg_mul, Int.neg_neg]
    rw [e, Int.neg_tdiv, Int.tdiv_eq_ediv_of_nonneg a1]
    generalize (-z) * q = y at a1 a2
    omega
theorem drI_b {a s p q : Nat} (ha : a ≤ 16383) (hq : q ≤ 100) : 0 ≤ drI a s p q ∧ drI a s p q ≤ 16383 := by
  have h1 := nrI_b (s := s) (p := p) ha
  have h2 := tdv_b (z := nrI a s p - a) (q := q) (by omega) (by omega)
  unfold drI
  by_cases e : 0 ≤ nrI a s p - a
  · have := h2.1 e; omega
  · have := h2.2 (by omega); omega
theorem drI_t {a s p q : Nat} (ha : a ≤ 9599) (hq : q ≤ 100) : 0 ≤ drI a s p q ∧ drI a s p q ≤ 9599 := by
  have h1 := nrI_t (s := s) (p := p) ha
  have h2 := tdv_b (z := nrI a s p - a) (q := q) (by omega) (by omega)
  unfold drI
  by_cases e : 0 ≤ nrI a s p - a
  · have := h2.1 e; omega
  · have := h2.2 (by omega); omega
theorem and1 {k : Int} (h1 : -1 ≤ k) : iI k &&& iI 1 = iI (k % 2) := by
  by_cases e : k = -1
  · subst e; decide
  · exact iand (a := k) 1 (by decide) (by omega)
section
variable {d : Nat} {H : aHf} {r : Nat × Nat × Nat × Nat}
theorem near_loop {a s p : Nat} (ha : a ≤ 16383) (hs : 1 ≤ s ∧ s ≤ 384) (hp : p ≤ 75) : ∀ (m : Nat) (k : Int) (e : Int × Int), -1 ≤ k → k + m = (a / s : Nat) + 2 → (0 ≤ e.1 ∧ e.1 ≤ 16383) → (0 ≤ e.2 ∧ e.2 ≤ 30000) → ∀ l7 l8 l9 : Option Value,
    L (d + 2) 46 24 [some (.int (iI a)), some (.int (iI s)), some (.int (iI p)), some (.int (iI (a / s : Nat))), some (.int (iI e.1)), some (.int (iI e.2)), some (.int (iI k)), l7, l8, l9] [] (H, r) = some (.inl (some (.int (iI (nlR a s p m k e).1))), (H, r)) := by
  have ed : a / s * s ≤ a := Nat.div_mul_le_self a s
  have ed2 : a / s ≤ a := Nat.div_le_self a s
  intro m
  induction m with
  | zero =>
    intro k e hk hm h1 h2 l7 l8 l9
    have c1 : (((a / s : Nat) : Int) + 1 < k) := by omega
    rw [r46_24]
    simp (disch := omega) only [r46_0, r46_1, r46_2, r46_5, r46_6, r46_7, r46_8, r46_9, r46_10, r46_11, r46_12, r46_14, r46_17, r46_19, r46_20, r46_21, r46_22, r46_26, r46_27, r46_28, r46_29, r46_32, r46_34, r46_35, r46_36, r46_37, r46_40, r46_41, r46_42, r46_43, r46_45, r46_46, r46_49, r46_50, r46_52, r46_54, r46_55, r46_56, r46_58, r46_59, r46_61, r46_63, r46_64, r46_65, r46_68, r46_70, r46_72, r46_75, r46_78, r46_80, r46_82, r46_85, r46_87, r46_89, r46_91, r46_93, r46_96, r46_99, r46_101, iI_add, iI_lt, c1, kl_n, kl_i, kl_r, kl_z, kl_l, kl_d, catS_0, catS_c, cat_i, cat_l, cat_d, cat_r, cat_n, kC_r, kC_x, Option.bind_some, Option.toList_some, Option.toList_none, List.cons_append, List.nil_append, gB0, gB1, gB2, gB3, gB4, rvB, nI_iI, i0, i1, l0_, wr_s, aup_s, and_true, true_and, and_self, eq_self, if_true, if_false, Nat.zero_le, Nat.reduceAdd, Nat.reduceLeDiff, gN_I, gN_L, gN_P, bI_0, bI_ok, z0, z1, Bool.true_eq, Bool.false_eq_true, not_true_eq_false, not_false_eq_true]
    rfl
  | succ m ih =>
    intro k e hk hm h1 h2 l7 l8 l9
    have c1 : ¬ (((a / s : Nat) : Int) + 1 < k) := by omega
    have hsp : s * p ≤ 384 * 75 := Nat.mul_le_mul hs.2 hp
    have e5 : (s : Int) * (p : Int) = ((s * p : Nat) : Int) := by push_cast; rfl
    have f1 : ¬ iI 100 = iI 0 := by decide
    have k1 : k * (s : Int) ≤ 16383 + 384 := by
      have a1 : k * (s : Int) ≤ (((a / s : Nat) : Int) + 1) * s := Int.mul_le_mul_of_nonneg_right (by omega) (by omega)
      have a2 : (((a / s : Nat) : Int) + 1) * s = ((a / s * s : Nat) : Int) + s := by rw [Int.add_mul, Int.one_mul]; push_cast; rfl
      rw [a2] at a1
      omega
    have k2 : -384 ≤ k * (s : Int) := by
      have a1 : (-1) * (s : Int) ≤ k * (s : Int) := Int.mul_le_mul_of_nonneg_right (by omega) (by omega)
      omega
    have hd := nlS_b (a := a) (s := s) (p := p) (k := k) h1 h2
    have h9 := fun l7 l8 l9 => ih (k + 1) (nlS a s p k e) (by omega) (by omega) hd.1 hd.2 l7 l8 l9
    have hr : nlR a s p (m + 1) k e = nlR a s p m (k + 1) (nlS a s p k e) := rfl
    rw [hr, r46_24]
    have hln : ∃ z, lnI s p k = z ∧ -384 ≤ z ∧ z ≤ 17100 := by
      refine ⟨_, rfl, ?_⟩
      unfold lnI
      split <;> omega
    obtain ⟨z, hz, z1, z2⟩ := hln
    have tl : ∀ l7 l9 : Option Value, ∀ y : Int32, L (d + 2) 46 61 [some (.int (iI a)), some (.int (iI s)), some (.int (iI p)), some (.int (iI (a / s : Nat))), some (.int (iI e.1)), some (.int (iI e.2)), some (.int (iI k)), some (.int y), some (.int (iI z)), l9] [] (H, r) = some (.inl (some (.int (iI (nlR a s p m (k + 1) (nlS a s p k e)).1))), (H, r)) := by
      intro l7 l9 y
      by_cases q : 0 ≤ z ∧ z ≤ 9599
      · by_cases q2 : ((z - a).natAbs : Int) < e.2
        · have q3 : ¬ e.2 ≤ ((z - a).natAbs : Int) := by omega
          have e3 : nlS a s p k e = (z, ((z - a).natAbs : Int)) := by
            unfold nlS
            rw [hz, if_pos ⟨q, q2⟩]
          rw [e3] at h9 ⊢
          simp (disch := omega) only [r46_0, r46_1, r46_2, r46_5, r46_6, r46_7, r46_8, r46_9, r46_10, r46_11, r46_12, r46_14, r46_17, r46_19, r46_20, r46_21, r46_22, r46_26, r46_27, r46_28, r46_29, r46_32, r46_34, r46_35, r46_36, r46_37, r46_40, r46_41, r46_42, r46_43, r46_45, r46_46, r46_49, r46_50, r46_52, r46_54, r46_55, r46_56, r46_58, r46_59, r46_61, r46_63, r46_64, r46_65, r46_68, r46_70, r46_72, r46_75, r46_78, r46_80, r46_82, r46_85, r46_87, r46_89, r46_91, r46_93, r46_96, r46_99, r46_101, iI_sub, s_abs, s_isTick, q, iI_le, q3, iI_add, h9, kl_n, kl_i, kl_r, kl_z, kl_l, kl_d, catS_0, catS_c, cat_i, cat_l, cat_d, cat_r, cat_n, kC_r, kC_x, Option.bind_some, Option.toList_some, Option.toList_none, List.cons_append, List.nil_append, gB0, gB1, gB2, gB3, gB4, rvB, nI_iI, i0, i1, l0_, wr_s, aup_s, and_true, true_and, and_self, eq_self, if_true, if_false, Nat.zero_le, Nat.reduceAdd, Nat.reduceLeDiff, gN_I, gN_L, gN_P, bI_0, bI_ok, z0, z1, Bool.true_eq, Bool.false_eq_true, not_true_eq_false, not_false_eq_true]
        · have q3 : e.2 ≤ ((z - a).natAbs : Int) := by omega
          have e3 : nlS a s p k e = e := by
            unfold nlS
            rw [hz, if_neg (fun y => q2 y.2)]
          rw [e3] at h9 ⊢
          simp (disch := omega) only [r46_0, r46_1, r46_2, r46_5, r46_6, r46_7, r46_8, r46_9, r46_10, r46_11, r46_12, r46_14, r46_17, r46_19, r46_20, r46_21, r46_22, r46_26, r46_27, r46_28, r46_29, r46_32, r46_34, r46_35, r46_36, r46_37, r46_40, r46_41, r46_42, r46_43, r46_45, r46_46, r46_49, r46_50, r46_52, r46_54, r46_55, r46_56, r46_58, r46_59, r46_61, r46_63, r46_64, r46_65, r46_68, r46_70, r46_72, r46_75, r46_78, r46_80, r46_82, r46_85, r46_87, r46_89, r46_91, r46_93, r46_96, r46_99, r46_101, iI_sub, s_abs, s_isTick, q, iI_le, q3, iI_add, h9, kl_n, kl_i, kl_r, kl_z, kl_l, kl_d, catS_0, catS_c, cat_i, cat_l, cat_d, cat_r, cat_n, kC_r, kC_x, Option.bind_some, Option.toList_some, Option.toList_none, List.cons_append, List.nil_append, gB0, gB1, gB2, gB3, gB4, rvB, nI_iI, i0, i1, l0_, wr_s, aup_s, and_true, true_and, and_self, eq_self, if_true, if_false, Nat.zero_le, Nat.reduceAdd, Nat.reduceLeDiff, gN_I, gN_L, gN_P, bI_0, bI_ok, z0, z1, Bool.true_eq, Bool.false_eq_true, not_true_eq_false, not_false_eq_true]
      · have e3 : nlS a s p k e = e := by
          unfold nlS
          rw [hz, if_neg (fun y => q y.1)]
        rw [e3] at h9 ⊢
        simp (disch := omega) only [r46_0, r46_1, r46_2, r46_5, r46_6, r46_7, r46_8, r46_9, r46_10, r46_11, r46_12, r46_14, r46_17, r46_19, r46_20, r46_21, r46_22, r46_26, r46_27, r46_28, r46_29, r46_32, r46_34, r46_35, r46_36, r46_37, r46_40, r46_41, r46_42, r46_43, r46_45, r46_46, r46_49, r46_50, r46_52, r46_54, r46_55, r46_56, r46_58, r46_59, r46_61, r46_63, r46_64, r46_65, r46_68, r46_70, r46_72, r46_75, r46_78, r46_80, r46_82, r46_85, r46_87, r46_89, r46_91, r46_93, r46_96, r46_99, r46_101, iI_sub, s_abs, s_isTick, q, iI_le, iI_add, h9, kl_n, kl_i, kl_r, kl_z, kl_l, kl_d, catS_0, catS_c, cat_i, cat_l, cat_d, cat_r, cat_n, kC_r, kC_x, Option.bind_some, Option.toList_some, Option.toList_none, List.cons_append, List.nil_append, gB0, gB1, gB2, gB3, gB4, rvB, nI_iI, i0, i1, l0_, wr_s, aup_s, and_true, true_and, and_self, eq_self, if_true, if_false, Nat.zero_le, Nat.reduceAdd, Nat.reduceLeDiff, gN_I, gN_L, gN_P, bI_0, bI_ok, z0, z1, Bool.true_eq, Bool.false_eq_true, not_true_eq_false, not_false_eq_true]
    by_cases q : k % 2 = 1
    · have e6 : k * (s : Int) + ((s * p / 100 : Nat) : Int) = z := by
        rw [← hz]
        unfold lnI
        rw [if_pos q]
      have e7 : ((s * p : Nat) : Int) / 100 = ((s * p / 100 : Nat) : Int) := rfl
      generalize s * p = sp at e5 e6 e7 hsp
      simp (disch := omega) only [r46_26, r46_27, r46_28, r46_29, r46_32, r46_34, r46_35, r46_36, r46_37, r46_40, r46_41, r46_42, r46_43, r46_45, r46_46, r46_49, r46_50, r46_52, r46_54, r46_55, r46_56, r46_58, r46_59, iI_add, iI_lt, c1, and1, iI_eq, q, iI_mul, e5, f1, iI_div, e7, e6, tl, kl_n, kl_i, kl_r, kl_z, kl_l, kl_d, catS_0, catS_c, cat_i, cat_l, cat_d, cat_r, cat_n, kC_r, kC_x, Option.bind_some, Option.toList_some, Option.toList_none, List.cons_append, List.nil_append, gB0, gB1, gB2, gB3, gB4, rvB, nI_iI, i0, i1, l0_, wr_s, aup_s, and_true, true_and, and_self, eq_self, if_true, if_false, Nat.zero_le, Nat.reduceAdd, Nat.reduceLeDiff, gN_I, gN_L, gN_P, bI_0, bI_ok, z0, z1, Bool.true_eq, Bool.false_eq_true, not_true_eq_false, not_false_eq_true]
      exact tl none _ _
    · have e6 : k * (s : Int) + 0 = z := by
        rw [← hz]
        unfold lnI
        rw [if_neg q]
      simp (disch := omega) only [r46_26, r46_27, r46_28, r46_29, r46_32, r46_34, r46_35, r46_36, r46_37, r46_40, r46_41, r46_42, r46_43, r46_45, r46_46, r46_49, r46_50, r46_52, r46_54, r46_55, r46_56, r46_58, r46_59, iI_add, iI_lt, c1, and1, iI_eq, q, iI_mul, e6, tl, kl_n, kl_i, kl_r, kl_z, kl_l, kl_d, catS_0, catS_c, cat_i, cat_l, cat_d, cat_r, cat_n, kC_r, kC_x, Option.bind_some, Option.toList_some, Option.toList_none, List.cons_append, List.nil_append, gB0, gB1, gB2, gB3, gB4, rvB, nI_iI, i0, i1, l0_, wr_s, aup_s, and_true, true_and, and_self, eq_self, if_true, if_false, Nat.zero_le, Nat.reduceAdd, Nat.reduceLeDiff, gN_I, gN_L, gN_P, bI_0, bI_ok, z0, z1, Bool.true_eq, Bool.false_eq_true, not_true_eq_false, not_false_eq_true]
      exact tl none _ _
theorem s_nearest {a s p : Nat} (ha : a ≤ 16383) (hs : 1 ≤ s ∧ s ≤ 384) (hp : p ≤ 75) : aE (d + 3) 46 [.int (iI a), .int (iI s), .int (iI p)] (H, r) = some (.inl (some (.int (iI (nrI a s p)))), (H, r)) := by
  have ed2 : a / s ≤ a := Nat.div_le_self a s
  have f0 : ¬ iI s = iI 0 := by
    rw [iI_eq (by omega) (by omega) (by omega) (by omega)]
    omega
  have f1 : (1 : Int) ≤ s := by omega
  have n0 : (0 : Int) ≤ ((a / s : Nat) : Int) := Int.natCast_nonneg _
  have hl := near_loop (d := d) (H := H) (r := r) ha hs hp 3 ((a / s : Nat) - 1) (a, 9600) (by omega) (by omega) (by show 0 ≤ (a : Int) ∧ (a : Int) ≤ 16383; omega) (by show 0 ≤ (9600 : Int) ∧ (9600 : Int) ≤ 30000; omega) none none none
  simp (disch := omega) only [e46, r46_0, r46_1, r46_2, r46_5, r46_6, r46_7, r46_8, r46_9, r46_10, r46_11, r46_12, r46_14, r46_17, r46_19, r46_20, r46_21, r46_22, r46_26, r46_27, r46_28, r46_29, r46_32, r46_34, r46_35, r46_36, r46_37, r46_40, r46_41, r46_42, r46_43, r46_45, r46_46, r46_49, r46_50, r46_52, r46_54, r46_55, r46_56, r46_58, r46_59, r46_61, r46_63, r46_64, r46_65, r46_68, r46_70, r46_72, r46_75, r46_78, r46_80, r46_82, r46_85, r46_87, r46_89, r46_91, r46_93, r46_96, r46_99, r46_101, iI_le, f1, f0, iI_div, cdiv, iI_sub, hl, kl_n, kl_i, kl_r, kl_z, kl_l, kl_d, catS_0, catS_c, cat_i, cat_l, cat_d, cat_r, cat_n, kC_r, kC_x, Option.bind_some, Option.toList_some, Option.toList_none, List.cons_append, List.nil_append, gB0, gB1, gB2, gB3, gB4, rvB, nI_iI, i0, i1, l0_, wr_s, aup_s, and_true, true_and, and_self, eq_self, if_true, if_false, Nat.zero_le, Nat.reduceAdd, Nat.reduceLeDiff, gN_I, gN_L, gN_P, bI_0, bI_ok, z0, z1, Bool.true_eq, Bool.false_eq_true, not_true_eq_false, not_false_eq_true]
  rfl
theorem s_drawn {a s p q : Nat} (ha : a ≤ 16383) (hs : 1 ≤ s ∧ s ≤ 384) (hp : p ≤ 75) (hq : q ≤ 100) : aE (d + 4) 47 [.int (iI a), .int (iI s), .int (iI p), .int (iI q)] (H, r) = some (.inl (some (.int (iI (drI a s p q)))), (H, r)) := by
  have h1 := nrI_b (s := s) (p := p) ha
  have f1 : ¬ iI 100 = iI 0 := by decide
  have b1 : (nrI a s p - a) * (q : Int) ≤ 1638300 := by
    have a1 : (nrI a s p - a) * (q : Int) ≤ 16383 * q := Int.mul_le_mul_of_nonneg_right (by omega) (by omega)
    omega
  have b2 : -1638300 ≤ (nrI a s p - a) * (q : Int) := by
    have a1 : (-16383) * (q : Int) ≤ (nrI a s p - a) * q := Int.mul_le_mul_of_nonneg_right (by omega) (by omega)
    omega
  have hd : drI a s p q = a + ((nrI a s p - a) * q).tdiv 100 := rfl
  rw [hd]
  generalize hz : (nrI a s p - a) * (q : Int) = z at b1 b2
  have e1 : iI z / iI 100 = iI (z.tdiv 100) := iI_td (by omega) (by omega) (by omega) (by omega)
  simp (disch := omega) only [e47, r47_0, r47_1, r47_2, r47_3, r47_4, r47_7, r47_8, r47_9, r47_10, r47_11, r47_13, r47_14, r47_15, s_nearest ha hs hp, iI_sub, iI_mul, hz, f1, e1, iI_add, kl_n, kl_i, kl_r, kl_z, kl_l, kl_d, catS_0, catS_c, cat_i, cat_l, cat_d, cat_r, cat_n, kC_r, kC_x, Option.bind_some, Option.toList_some, Option.toList_none, List.cons_append, List.nil_append, gB0, gB1, gB2, gB3, gB4, rvB, nI_iI, i0, i1, l0_, wr_s, aup_s, and_true, true_and, and_self, eq_self, if_true, if_false, Nat.zero_le, Nat.reduceAdd, Nat.reduceLeDiff, gN_I, gN_L, gN_P, bI_0, bI_ok, z0, z1, Bool.true_eq, Bool.false_eq_true, not_true_eq_false, not_false_eq_true]
end
/-- a note drawn to the grid -/
def qnM (t v u : Int) (s p q c : Nat) : Bool := decide (cIn c t v u ∧ drI (cS c) s p q ≠ cS c)
def qnG (t v u : Int) (s p q c : Nat) : Nat := if qnM t v u s p q c = true then cO (cT c) (drI (cS c) s p q).toNat (cP c) (cL c) (cF c) else c
theorem qnG_ok {t v u : Int} {s p q c : Nat} (hq : q ≤ 100) (hc : cOk c) : cOk (qnG t v u s p q c) := by
  have a1 := cS_lt c
  have := drI_b (s := s) (p := p) (q := q) (show cS c ≤ 16383 by omega) hq
  unfold qnG
  split
  · exact cO_ok (cT_lt hc) (by omega) (cP_lt c) (cL_lt c) (cF_lt c)
  · exact hc
section
variable {d n w : Nat} {g : Nat × Nat} {h : aHf} {x : Nat} {W : Dk}
theorem qn_loop {t v u : Int} {s p q : Nat} (hO : dkOk W) (hr : rgOk t v u) (hs : 1 ≤ s ∧ s ≤ 384) (hp : p ≤ 75) (hq : q ≤ 100) (hS : sgOk ((W.1.1.1, srtN (mapN W.1.1.2 (qnG t v u s p q) W.1.1.1) W.1.1.1), W.1.2)) : ∀ m i : Nat, i + m = W.1.1.1 → ∀ l9 l10 l11 l12 : Option Value, L (d + 11) 48 69 [some (.ref x), some (.int (iI t)), some (.int (iI v)), some (.int (iI u)), some (.int (iI s)), some (.int (iI p)), some (.int (iI q)), some (.int (iI (cntP (qnM t v u s p q) W.1.1.2 i))), some (.int (iI i)), l9, l10, l11, l12] [] (dkW h x (((W.1.1.1, mapN W.1.1.2 (qnG t v u s p q) i), W.1.2), W.2), n, w, g) =
    some (.inl (some (.int (iI (cntP (qnM t v u s p q) W.1.1.2 W.1.1.1)))), (dkW h x (seW (((W.1.1.1, srtN (mapN W.1.1.2 (qnG t v u s p q) W.1.1.1) W.1.1.1), W.1.2), W.2)), n, w, g)) := by
  have hn := hO.1.1
  intro m
  induction m with
  | zero =>
    intro i hi l9 l10 l11 l12
    obtain rfl : i = W.1.1.1 := by omega
    have c1 : (W.1.1.1 : Int) ≤ W.1.1.1 := by omega
    have d1 := k_sort (d := d + 7) (h := h) (r := (n, w, g)) (x := x) (W := (((W.1.1.1, mapN W.1.1.2 (qnG t v u s p q) W.1.1.1), W.1.2), W.2)) hn (mapN_ok (fun c hc => qnG_ok hq hc) hO.1.2.1)
    have d2 := s_settle (d := d + 5) (h := h) (r := (n, w, g)) (x := x) (W := (((W.1.1.1, srtN (mapN W.1.1.2 (qnG t v u s p q) W.1.1.1) W.1.1.1), W.1.2), W.2)) hS hO.2.1
    rw [r48_69]
    simp (disch := omega) only [r48_0, r48_1, r48_2, r48_3, r48_6, r48_9, r48_11, r48_12, r48_15, r48_18, r48_21, r48_31, r48_33, r48_34, r48_36, r48_39, r48_42, r48_44, r48_45, r48_47, r48_50, r48_53, r48_63, r48_64, r48_66, r48_67, r48_71, r48_72, r48_75, r48_78, r48_81, r48_84, r48_85, r48_88, r48_91, r48_93, r48_96, r48_98, r48_100, r48_103, r48_105, r48_107, r48_109, r48_111, r48_113, r48_116, r48_118, r48_120, r48_121, r48_122, r48_123, r48_126, r48_129, r48_131, r48_133, r48_136, r48_139, r48_140, r48_143, r48_146, r48_148, r48_150, r48_152, r48_155, r48_158, r48_161, r48_164, r48_165, r48_168, r48_171, r48_174, r48_175, r48_178, r48_180, dk_0, dk_1, dk_2, k_size, iI_le, c1, d1, d2, kl_n, kl_i, kl_r, kl_z, kl_l, kl_d, catS_0, catS_c, cat_i, cat_l, cat_d, cat_r, cat_n, kC_r, kC_x, Option.bind_some, Option.toList_some, Option.toList_none, List.cons_append, List.nil_append, gB0, gB1, gB2, gB3, gB4, rvB, nI_iI, i0, i1, l0_, wr_s, aup_s, and_true, true_and, and_self, eq_self, if_true, if_false, Nat.zero_le, Nat.reduceAdd, Nat.reduceLeDiff, gN_I, gN_L, gN_P, bI_0, bI_ok, z0, z1, Bool.true_eq, Bool.false_eq_true, not_true_eq_false, not_false_eq_true]
  | succ m ih =>
    intro i hi l9 l10 l11 l12
    have c1 : ¬ (W.1.1.1 : Int) ≤ i := by omega
    have e1 : (i : Int) + 1 = ((i + 1 : Nat) : Int) := by omega
    have hc := hO.1.2.1 i
    have a1 := cS_lt (W.1.1.2 i)
    have a2 : cS (W.1.1.2 i) ≤ 16383 := by omega
    have hb := drI_b (s := s) (p := p) (q := q) a2 hq
    have h9 := fun l4 l5 l6 l7 => ih (i + 1) (by omega) l4 l5 l6 l7
    rw [r48_69]
    by_cases q0 : cIn (W.1.1.2 i) t v u
    · have qT := eq_true q0
      by_cases q5 : drI (cS (W.1.1.2 i)) s p q = cS (W.1.1.2 i)
      · have qf : ¬ qnM t v u s p q (W.1.1.2 i) = true := fun z => (of_decide_eq_true z).2 q5
        have e3 : cntP (qnM t v u s p q) W.1.1.2 i = cntP (qnM t v u s p q) W.1.1.2 (i + 1) := (cntP_f qf).symm
        have e4 : qnG t v u s p q (W.1.1.2 i) = W.1.1.2 i := if_neg qf
        rw [← e3, ← mapN_z e4] at h9
        simp (disch := omega) only [r48_0, r48_1, r48_2, r48_3, r48_6, r48_9, r48_11, r48_12, r48_15, r48_18, r48_21, r48_31, r48_33, r48_34, r48_36, r48_39, r48_42, r48_44, r48_45, r48_47, r48_50, r48_53, r48_63, r48_64, r48_66, r48_67, r48_71, r48_72, r48_75, r48_78, r48_81, r48_84, r48_85, r48_88, r48_91, r48_93, r48_96, r48_98, r48_100, r48_103, r48_105, r48_107, r48_109, r48_111, r48_113, r48_116, r48_118, r48_120, r48_121, r48_122, r48_123, r48_126, r48_129, r48_131, r48_133, r48_136, r48_139, r48_140, r48_143, r48_146, r48_148, r48_150, r48_152, r48_155, r48_158, r48_161, r48_164, r48_165, r48_168, r48_171, r48_174, r48_175, r48_178, r48_180, dk_0, dk_1, dk_2, k_size, iI_le, c1, k_codeAt, mapN_at, s_start hc, s_drawn a2 hs hp hq, s_isIn hc, qT, q5, iI_eq, iI_add, e1, h9, kl_n, kl_i, kl_r, kl_z, kl_l, kl_d, catS_0, catS_c, cat_i, cat_l, cat_d, cat_r, cat_n, kC_r, kC_x, Option.bind_some, Option.toList_some, Option.toList_none, List.cons_append, List.nil_append, gB0, gB1, gB2, gB3, gB4, rvB, nI_iI, i0, i1, l0_, wr_s, aup_s, and_true, true_and, and_self, eq_self, if_true, if_false, Nat.zero_le, Nat.reduceAdd, Nat.reduceLeDiff, gN_I, gN_L, gN_P, bI_0, bI_ok, z0, z1, Bool.true_eq, Bool.false_eq_true, not_true_eq_false, not_false_eq_true]
      · have qf : qnM t v u s p q (W.1.1.2 i) = true := decide_eq_true ⟨q0, q5⟩
        have e3 : (cntP (qnM t v u s p q) W.1.1.2 i : Int) + 1 = (cntP (qnM t v u s p q) W.1.1.2 (i + 1) : Int) := by rw [cntP_t qf]; omega
        have e4 : cO (cT (W.1.1.2 i)) (drI (cS (W.1.1.2 i)) s p q).toNat (cP (W.1.1.2 i)) (cL (W.1.1.2 i)) (cF (W.1.1.2 i)) = qnG t v u s p q (W.1.1.2 i) := (if_pos qf).symm
        have e2 : drI (cS (W.1.1.2 i)) s p q = (((drI (cS (W.1.1.2 i)) s p q).toNat : Nat) : Int) := by omega
        have p1 : (drI (cS (W.1.1.2 i)) s p q).toNat < 16384 := by omega
        have dr := s_drawn (d := d + 7) (H := dkW h x (((W.1.1.1, mapN W.1.1.2 (qnG t v u s p q) i), W.1.2), W.2)) (r := (n, w, g)) a2 hs hp hq
        rw [e2] at dr q5
        generalize (drI (cS (W.1.1.2 i)) s p q).toNat = pp at e4 p1 dr q5
        simp (disch := omega) only [r48_0, r48_1, r48_2, r48_3, r48_6, r48_9, r48_11, r48_12, r48_15, r48_18, r48_21, r48_31, r48_33, r48_34, r48_36, r48_39, r48_42, r48_44, r48_45, r48_47, r48_50, r48_53, r48_63, r48_64, r48_66, r48_67, r48_71, r48_72, r48_75, r48_78, r48_81, r48_84, r48_85, r48_88, r48_91, r48_93, r48_96, r48_98, r48_100, r48_103, r48_105, r48_107, r48_109, r48_111, r48_113, r48_116, r48_118, r48_120, r48_121, r48_122, r48_123, r48_126, r48_129, r48_131, r48_133, r48_136, r48_139, r48_140, r48_143, r48_146, r48_148, r48_150, r48_152, r48_155, r48_158, r48_161, r48_164, r48_165, r48_168, r48_171, r48_174, r48_175, r48_178, r48_180, dk_0, dk_1, dk_2, k_size, iI_le, c1, k_codeAt, mapN_at, s_start hc, dr, s_isIn hc, qT, q5, iI_eq, iI_add, s_withStart hc p1, e4, k_put, mapN_s, e3, e1, h9, kl_n, kl_i, kl_r, kl_z, kl_l, kl_d, catS_0, catS_c, cat_i, cat_l, cat_d, cat_r, cat_n, kC_r, kC_x, Option.bind_some, Option.toList_some, Option.toList_none, List.cons_append, List.nil_append, gB0, gB1, gB2, gB3, gB4, rvB, nI_iI, i0, i1, l0_, wr_s, aup_s, and_true, true_and, and_self, eq_self, if_true, if_false, Nat.zero_le, Nat.reduceAdd, Nat.reduceLeDiff, gN_I, gN_L, gN_P, bI_0, bI_ok, z0, z1, Bool.true_eq, Bool.false_eq_true, not_true_eq_false, not_false_eq_true]
    · have qT := eq_false q0
      have qf : ¬ qnM t v u s p q (W.1.1.2 i) = true := fun z => q0 (of_decide_eq_true z).1
      have e3 : cntP (qnM t v u s p q) W.1.1.2 i = cntP (qnM t v u s p q) W.1.1.2 (i + 1) := (cntP_f qf).symm
      have e4 : qnG t v u s p q (W.1.1.2 i) = W.1.1.2 i := if_neg qf
      rw [← e3, ← mapN_z e4] at h9
      simp (disch := omega) only [r48_0, r48_1, r48_2, r48_3, r48_6, r48_9, r48_11, r48_12, r48_15, r48_18, r48_21, r48_31, r48_33, r48_34, r48_36, r48_39, r48_42, r48_44, r48_45, r48_47, r48_50, r48_53, r48_63, r48_64, r48_66, r48_67, r48_71, r48_72, r48_75, r48_78, r48_81, r48_84, r48_85, r48_88, r48_91, r48_93, r48_96, r48_98, r48_100, r48_103, r48_105, r48_107, r48_109, r48_111, r48_113, r48_116, r48_118, r48_120, r48_121, r48_122, r48_123, r48_126, r48_129, r48_131, r48_133, r48_136, r48_139, r48_140, r48_143, r48_146, r48_148, r48_150, r48_152, r48_155, r48_158, r48_161, r48_164, r48_165, r48_168, r48_171, r48_174, r48_175, r48_178, r48_180, dk_0, dk_1, dk_2, k_size, iI_le, c1, k_codeAt, mapN_at, s_start hc, s_drawn a2 hs hp hq, s_isIn hc, qT, iI_add, e1, h9, kl_n, kl_i, kl_r, kl_z, kl_l, kl_d, catS_0, catS_c, cat_i, cat_l, cat_d, cat_r, cat_n, kC_r, kC_x, Option.bind_some, Option.toList_some, Option.toList_none, List.cons_append, List.nil_append, gB0, gB1, gB2, gB3, gB4, rvB, nI_iI, i0, i1, l0_, wr_s, aup_s, and_true, true_and, and_self, eq_self, if_true, if_false, Nat.zero_le, Nat.reduceAdd, Nat.reduceLeDiff, gN_I, gN_L, gN_P, bI_0, bI_ok, z0, z1, Bool.true_eq, Bool.false_eq_true, not_true_eq_false, not_false_eq_true]
theorem s_quantise {t v u : Int} {s p q : Nat} (hO : dkOk W) (hr : rgOk t v u) (hs : 1 ≤ s ∧ s ≤ 384) (hp : p ≤ 75) (hq : q ≤ 100) (hS : sgOk ((W.1.1.1, srtN (mapN W.1.1.2 (qnG t v u s p q) W.1.1.1) W.1.1.1), W.1.2)) : aE (d + 12) 48 [.ref x, .int (iI t), .int (iI v), .int (iI u), .int (iI s), .int (iI p), .int (iI q)] (dkW h x W, n, w, g) =
    some (.inl (some (.int (iI (cntP (qnM t v u s p q) W.1.1.2 W.1.1.1)))), (dkW h x (seW (((W.1.1.1, srtN (mapN W.1.1.2 (qnG t v u s p q) W.1.1.1) W.1.1.1), W.1.2), W.2)), n, w, g)) := by
  have hl := qn_loop (d := d) (n := n) (w := w) (g := g) (h := h) (x := x) hO hr hs hp hq hS W.1.1.1 0 (by omega) none none none none
  rw [show ((0 : Nat) : Int) = 0 from rfl, show ((cntP (qnM t v u s p q) W.1.1.2 0 : Nat) : Int) = 0 from rfl, mapN_0] at hl
  have hr2 : rgOk t v u := hr
  unfold rgOk at hr2
  have q1 := eq_true hr2
  have q2 : (1 : Int) ≤ s ∧ (s : Int) ≤ 384 := by omega
  have q3 : (0 : Int) ≤ p ∧ (p : Int) ≤ 75 := by omega
  have q4 : (0 : Int) ≤ q ∧ (q : Int) ≤ 100 := by omega
  simp (disch := omega) only [e48, r48_0, r48_1, r48_2, r48_3, r48_6, r48_9, r48_11, r48_12, r48_15, r48_18, r48_21, r48_31, r48_33, r48_34, r48_36, r48_39, r48_42, r48_44, r48_45, r48_47, r48_50, r48_53, r48_63, r48_64, r48_66, r48_67, r48_71, r48_72, r48_75, r48_78, r48_81, r48_84, r48_85, r48_88, r48_91, r48_93, r48_96, r48_98, r48_100, r48_103, r48_105, r48_107, r48_109, r48_111, r48_113, r48_116, r48_118, r48_120, r48_121, r48_122, r48_123, r48_126, r48_129, r48_131, r48_133, r48_136, r48_139, r48_140, r48_143, r48_146, r48_148, r48_150, r48_152, r48_155, r48_158, r48_161, r48_164, r48_165, r48_168, r48_171, r48_174, r48_175, r48_178, r48_180, s_isRange, q1, s_isWithin, q2, q3, q4, hl, kl_n, kl_i, kl_r, kl_z, kl_l, kl_d, catS_0, catS_c, cat_i, cat_l, cat_d, cat_r, cat_n, kC_r, kC_x, Option.bind_some, Option.toList_some, Option.toList_none, List.cons_append, List.nil_append, gB0, gB1, gB2, gB3, gB4, rvB, nI_iI, i0, i1, l0_, wr_s, aup_s, and_true, true_and, and_self, eq_self, if_true, if_false, Nat.zero_le, Nat.reduceAdd, Nat.reduceLeDiff, gN_I, gN_L, gN_P, bI_0, bI_ok, z0, z1, Bool.true_eq, Bool.false_eq_true, not_true_eq_false, not_false_eq_true]
theorem s_quantise_1 {t v u s p q : Int} (b1 : -2147483648 ≤ t ∧ t < 2147483648) (b2 : -2147483648 ≤ v ∧ v < 2147483648) (b3 : -2147483648 ≤ u ∧ u < 2147483648) (b4 : -2147483648 ≤ s ∧ s < 2147483648) (b5 : -2147483648 ≤ p ∧ p < 2147483648) (b6 : -2147483648 ≤ q ∧ q < 2147483648) (hc : ¬ (rgOk t v u ∧ (1 ≤ s ∧ s ≤ 384) ∧ (0 ≤ p ∧ p ≤ 75) ∧ (0 ≤ q ∧ q ≤ 100))) :
    aE (d + 12) 48 [.ref x, .int (iI t), .int (iI v), .int (iI u), .int (iI s), .int (iI p), .int (iI q)] (dkW h x W, n, w, g) = some (.inr "java/lang/IllegalArgumentException", (dkW h x W, n + 1, w + 6, g)) := by
  have c8 : 8 ≤ d + 11 := by omega
  simp (disch := omega) only [e48, r48_0, r48_1, r48_2, r48_3, r48_6, r48_9, r48_11, r48_12, r48_15, r48_18, r48_21, r48_31, r48_33, r48_34, r48_36, r48_39, r48_42, r48_44, r48_45, r48_47, r48_50, r48_53, s_isRange, s_isWithin, c8, ite_not, kl_n, kl_i, kl_r, kl_z, kl_l, kl_d, catS_0, catS_c, cat_i, cat_l, cat_d, cat_r, cat_n, kC_r, kC_x, Option.bind_some, Option.toList_some, Option.toList_none, List.cons_append, List.nil_append, gB0, gB1, gB2, gB3, gB4, rvB, nI_iI, i0, i1, l0_, wr_s, aup_s, and_true, true_and, and_self, eq_self, if_true, if_false, Nat.zero_le, Nat.reduceAdd, Nat.reduceLeDiff, gN_I, gN_L, gN_P, bI_0, bI_ok, z0, z1, Bool.true_eq, Bool.false_eq_true, not_true_eq_false, not_false_eq_true]
  by_cases q1 : -1 ≤ t ∧ t ≤ 5 ∧ 0 ≤ v ∧ v < u ∧ u ≤ 9600
  · rw [if_pos q1]
    by_cases q2 : 1 ≤ s ∧ s ≤ 384
    · rw [if_pos q2]
      by_cases q3 : 0 ≤ p ∧ p ≤ 75
      · rw [if_pos q3, if_neg (fun z => hc ⟨q1, q2, q3, z⟩)]
      · rw [if_neg q3]
    · rw [if_neg q2]
  · rw [if_neg q1]
end
