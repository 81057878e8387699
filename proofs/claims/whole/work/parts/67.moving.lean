/-! ===== the reference: the nearest line, how many would move ===== -/
section
variable {d : Nat} {H : aH}
theorem r_line {k s p : Nat} (hk : k * s ≤ 20000) (hs : 1 ≤ s ∧ s ≤ 384) (hp : p ≤ 75) : aE (d + 1) 211 [.int (iI k), .int (iI s), .int (iI p)] H = some (.inl (some (.int (iI (lnI s p k)))), H) := by
  obtain ⟨h, r⟩ := H
  have hk2 : k ≤ 20000 := Nat.le_trans (Nat.le_mul_of_pos_right k (by omega)) hk
  have hsp : s * p ≤ 384 * 75 := Nat.mul_le_mul hs.2 hp
  have e1 : (k : Int) * (s : Int) = ((k * s : Nat) : Int) := (Int.natCast_mul _ _).symm
  have e2 : (s : Int) * (p : Int) = ((s * p : Nat) : Int) := (Int.natCast_mul _ _).symm
  have f1 : ¬ iI 2 = iI 0 := by decide
  have f2 : ¬ iI 100 = iI 0 := by decide
  have e3 : (k : Int) / 2 = ((k / 2 : Nat) : Int) := rfl
  have e4 : (k : Int) - ((k / 2 : Nat) : Int) * 2 = ((k % 2 : Nat) : Int) := by omega
  have e5 : ((s * p : Nat) : Int) / 100 = ((s * p / 100 : Nat) : Int) := rfl
  rw [ln_n]
  generalize s * p = z at e2 hsp e5
  generalize k * s = x at e1 hk
  by_cases q : k % 2 = 1
  · have q1 : ((k % 2 : Nat) : Int) = 1 := by omega
    rw [if_pos q]
    simp (disch := omega) only [e211, r211_0, r211_1, r211_2, r211_3, r211_4, r211_5, r211_6, r211_7, r211_10, r211_11, r211_12, r211_13, r211_15, r211_16, r211_19, r211_20, r211_21, iI_mul, e1, f1, iI_div, e3, iI_sub, e4, iI_eq, q1, e2, f2, e5, iI_add, kl_n, kl_i, kl_r, kl_z, kl_l, kl_d, catS_0, catS_c, cat_i, cat_l, cat_d, cat_r, cat_n, kC_r, kC_x, Option.bind_some, Option.toList_some, Option.toList_none, List.cons_append, List.nil_append, gB0, gB1, gB2, gB3, gB4, rvB, nI_iI, i0, i1, l0_, wr_s, aup_s, and_true, true_and, and_self, eq_self, if_true, if_false, Nat.zero_le, Nat.reduceAdd, Nat.reduceLeDiff, gN_I, gN_L, gN_P, bI_0, bI_ok, z0, z1, Bool.true_eq, Bool.false_eq_true, not_true_eq_false, not_false_eq_true]
  · have q1 : ¬ ((k % 2 : Nat) : Int) = 1 := by omega
    rw [if_neg q]
    simp (disch := omega) only [e211, r211_0, r211_1, r211_2, r211_3, r211_4, r211_5, r211_6, r211_7, r211_10, r211_11, r211_12, r211_13, r211_15, r211_16, r211_19, r211_20, r211_21, iI_mul, e1, f1, iI_div, e3, iI_sub, e4, iI_eq, q1, iI_add, kl_n, kl_i, kl_r, kl_z, kl_l, kl_d, catS_0, catS_c, cat_i, cat_l, cat_d, cat_r, cat_n, kC_r, kC_x, Option.bind_some, Option.toList_some, Option.toList_none, List.cons_append, List.nil_append, gB0, gB1, gB2, gB3, gB4, rvB, nI_iI, i0, i1, l0_, wr_s, aup_s, and_true, true_and, and_self, eq_self, if_true, if_false, Nat.zero_le, Nat.reduceAdd, Nat.reduceLeDiff, gN_I, gN_L, gN_P, bI_0, bI_ok, z0, z1, Bool.true_eq, Bool.false_eq_true, not_true_eq_false, not_false_eq_true]
theorem tgS_b {a : Nat} {l b : Int} (hl : 0 ≤ l) (hb : 0 ≤ b ∧ b ≤ 9599) : 0 ≤ tgS a l b ∧ tgS a l b ≤ 9599 := by
  unfold tgS
  split <;> omega
theorem tg_loop {a s p : Nat} (ha : a ≤ 9599) (hs : 1 ≤ s ∧ s ≤ 384) (hp : p ≤ 75) : ∀ (m k : Nat) (b : Int), k + m = a / s + 3 → (0 ≤ b ∧ b ≤ 9599) → ∀ l5 : Option Value, L (d + 1) 212 13 [some (.int (iI a)), some (.int (iI s)), some (.int (iI p)), some (.int (iI b)), some (.int (iI k)), l5] [] H = some (.inl (some (.int (iI (tgR a s p m k b)))), H) := by
  obtain ⟨h, r⟩ := H
  have f0 : ¬ iI s = iI 0 := by
    rw [iI_eq (by omega) (by omega) (by omega) (by omega)]
    omega
  have n1 := Nat.div_mul_le_self a s
  have n2 := Nat.div_le_self a s
  have ed : (a : Int) / (s : Int) = ((a / s : Nat) : Int) := cdiv a s
  intro m
  induction m with
  | zero =>
    intro k b hk hb l5
    have c1 : ((a / s : Nat) : Int) + 2 < (k : Int) := by omega
    rw [r212_13]
    simp (disch := omega) only [r212_0, r212_1, r212_2, r212_3, r212_4, r212_5, r212_6, r212_7, r212_8, r212_11, r212_15, r212_16, r212_17, r212_18, r212_19, r212_20, r212_23, r212_25, r212_26, r212_27, r212_30, r212_32, r212_34, r212_37, r212_40, r212_42, r212_43, r212_44, r212_47, r212_48, r212_49, r212_50, r212_53, r212_56, r212_58, r212_59, r212_62, r212_65, r212_66, f0, iI_div, ed, iI_add, iI_lt, c1, kl_n, kl_i, kl_r, kl_z, kl_l, kl_d, catS_0, catS_c, cat_i, cat_l, cat_d, cat_r, cat_n, kC_r, kC_x, Option.bind_some, Option.toList_some, Option.toList_none, List.cons_append, List.nil_append, gB0, gB1, gB2, gB3, gB4, rvB, nI_iI, i0, i1, l0_, wr_s, aup_s, and_true, true_and, and_self, eq_self, if_true, if_false, Nat.zero_le, Nat.reduceAdd, Nat.reduceLeDiff, gN_I, gN_L, gN_P, bI_0, bI_ok, z0, z1, Bool.true_eq, Bool.false_eq_true, not_true_eq_false, not_false_eq_true]
    rfl
  | succ m ih =>
    intro k b hk hb l5
    have c1 : ¬ ((a / s : Nat) : Int) + 2 < (k : Int) := by omega
    have e1 : (k : Int) + 1 = ((k + 1 : Nat) : Int) := by omega
    have hks : k * s ≤ 20000 := by
      have h1 : k * s ≤ (a / s + 2) * s := Nat.mul_le_mul_right s (by omega)
      rw [Nat.add_mul] at h1
      omega
    have ln := r_line (d := d) (H := (h, r)) hks hs hp
    have l0 := ln_0 (s := s) (p := p) (k := k)
    have l1 : lnI s p (k : Int) ≤ 20400 := by
      have hb2 := late_b hs.1 hp
      rw [ln_n]
      split <;> omega
    have h9 := fun l5 => ih (k + 1) (tgS a (lnI s p (k : Int)) b) (by omega) (tgS_b l0 hb) l5
    have et : tgR a s p (m + 1) k b = tgR a s p m (k + 1) (tgS a (lnI s p (k : Int)) b) := rfl
    rw [et, r212_13]
    generalize lnI s p (k : Int) = l at ln l0 l1 h9
    by_cases q : l < 9600
    · have q1 : ¬ (9600 : Int) ≤ l := by omega
      by_cases q2 : ((l - a).natAbs : Int) < ((b - a).natAbs : Int)
      · have q3 : ¬ ((b - a).natAbs : Int) ≤ ((l - a).natAbs : Int) := by omega
        have e4 : tgS a l b = l := if_pos ⟨q, q2⟩
        rw [e4] at h9 ⊢
        simp (disch := omega) only [r212_0, r212_1, r212_2, r212_3, r212_4, r212_5, r212_6, r212_7, r212_8, r212_11, r212_15, r212_16, r212_17, r212_18, r212_19, r212_20, r212_23, r212_25, r212_26, r212_27, r212_30, r212_32, r212_34, r212_37, r212_40, r212_42, r212_43, r212_44, r212_47, r212_48, r212_49, r212_50, r212_53, r212_56, r212_58, r212_59, r212_62, r212_65, r212_66, f0, iI_div, ed, iI_add, iI_lt, c1, ln, iI_le, q1, iI_sub, s_abs, q3, e1, h9, kl_n, kl_i, kl_r, kl_z, kl_l, kl_d, catS_0, catS_c, cat_i, cat_l, cat_d, cat_r, cat_n, kC_r, kC_x, Option.bind_some, Option.toList_some, Option.toList_none, List.cons_append, List.nil_append, gB0, gB1, gB2, gB3, gB4, rvB, nI_iI, i0, i1, l0_, wr_s, aup_s, and_true, true_and, and_self, eq_self, if_true, if_false, Nat.zero_le, Nat.reduceAdd, Nat.reduceLeDiff, gN_I, gN_L, gN_P, bI_0, bI_ok, z0, z1, Bool.true_eq, Bool.false_eq_true, not_true_eq_false, not_false_eq_true]
      · have q3 : ((b - a).natAbs : Int) ≤ ((l - a).natAbs : Int) := by omega
        have e4 : tgS a l b = b := if_neg (fun z => q2 z.2)
        rw [e4] at h9 ⊢
        simp (disch := omega) only [r212_0, r212_1, r212_2, r212_3, r212_4, r212_5, r212_6, r212_7, r212_8, r212_11, r212_15, r212_16, r212_17, r212_18, r212_19, r212_20, r212_23, r212_25, r212_26, r212_27, r212_30, r212_32, r212_34, r212_37, r212_40, r212_42, r212_43, r212_44, r212_47, r212_48, r212_49, r212_50, r212_53, r212_56, r212_58, r212_59, r212_62, r212_65, r212_66, f0, iI_div, ed, iI_add, iI_lt, c1, ln, iI_le, q1, iI_sub, s_abs, q3, e1, h9, kl_n, kl_i, kl_r, kl_z, kl_l, kl_d, catS_0, catS_c, cat_i, cat_l, cat_d, cat_r, cat_n, kC_r, kC_x, Option.bind_some, Option.toList_some, Option.toList_none, List.cons_append, List.nil_append, gB0, gB1, gB2, gB3, gB4, rvB, nI_iI, i0, i1, l0_, wr_s, aup_s, and_true, true_and, and_self, eq_self, if_true, if_false, Nat.zero_le, Nat.reduceAdd, Nat.reduceLeDiff, gN_I, gN_L, gN_P, bI_0, bI_ok, z0, z1, Bool.true_eq, Bool.false_eq_true, not_true_eq_false, not_false_eq_true]
    · have q1 : (9600 : Int) ≤ l := by omega
      have e4 : tgS a l b = b := if_neg (fun z => q z.1)
      rw [e4] at h9 ⊢
      simp (disch := omega) only [r212_0, r212_1, r212_2, r212_3, r212_4, r212_5, r212_6, r212_7, r212_8, r212_11, r212_15, r212_16, r212_17, r212_18, r212_19, r212_20, r212_23, r212_25, r212_26, r212_27, r212_30, r212_32, r212_34, r212_37, r212_40, r212_42, r212_43, r212_44, r212_47, r212_48, r212_49, r212_50, r212_53, r212_56, r212_58, r212_59, r212_62, r212_65, r212_66, f0, iI_div, ed, iI_add, iI_lt, c1, ln, iI_le, q1, e1, h9, kl_n, kl_i, kl_r, kl_z, kl_l, kl_d, catS_0, catS_c, cat_i, cat_l, cat_d, cat_r, cat_n, kC_r, kC_x, Option.bind_some, Option.toList_some, Option.toList_none, List.cons_append, List.nil_append, gB0, gB1, gB2, gB3, gB4, rvB, nI_iI, i0, i1, l0_, wr_s, aup_s, and_true, true_and, and_self, eq_self, if_true, if_false, Nat.zero_le, Nat.reduceAdd, Nat.reduceLeDiff, gN_I, gN_L, gN_P, bI_0, bI_ok, z0, z1, Bool.true_eq, Bool.false_eq_true, not_true_eq_false, not_false_eq_true]
theorem r_target {a s p : Nat} (ha : a ≤ 9599) (hs : 1 ≤ s ∧ s ≤ 384) (hp : p ≤ 75) : aE (d + 2) 212 [.int (iI a), .int (iI s), .int (iI p)] H = some (.inl (some (.int (iI (nrI a s p)))), H) := by
  have f0 : ¬ iI s = iI 0 := by
    rw [iI_eq (by omega) (by omega) (by omega) (by omega)]
    omega
  have n2 := Nat.div_le_self a s
  have ed : (a : Int) / (s : Int) = ((a / s : Nat) : Int) := cdiv a s
  have n3 : (0 : Int) ≤ ((a / s : Nat) : Int) := Int.natCast_nonneg _
  have hl := tg_loop (d := d) (H := H) ha hs hp (a / s + 2 - (a / s - 2) + 1) (a / s - 2) 0 (by omega) (by omega) none
  rw [← nr_tg ha hs.1 hp] at hl
  obtain ⟨h, r⟩ := H
  have mx := s_max (d := d) (h := h) (r := r) (a := 0) (b := ((a / s : Nat) : Int) - 2) (by omega) (by omega) (by omega) (by omega)
  rw [show max (0 : Int) (((a / s : Nat) : Int) - 2) = ((a / s - 2 : Nat) : Int) by omega] at mx
  simp (disch := omega) only [e212, r212_0, r212_1, r212_2, r212_3, r212_4, r212_5, r212_6, r212_7, r212_8, r212_11, r212_15, r212_16, r212_17, r212_18, r212_19, r212_20, r212_23, r212_25, r212_26, r212_27, r212_30, r212_32, r212_34, r212_37, r212_40, r212_42, r212_43, r212_44, r212_47, r212_48, r212_49, r212_50, r212_53, r212_56, r212_58, r212_59, r212_62, r212_65, r212_66, f0, iI_div, ed, iI_sub, mx, hl, kl_n, kl_i, kl_r, kl_z, kl_l, kl_d, catS_0, catS_c, cat_i, cat_l, cat_d, cat_r, cat_n, kC_r, kC_x, Option.bind_some, Option.toList_some, Option.toList_none, List.cons_append, List.nil_append, gB0, gB1, gB2, gB3, gB4, rvB, nI_iI, i0, i1, l0_, wr_s, aup_s, and_true, true_and, and_self, eq_self, if_true, if_false, Nat.zero_le, Nat.reduceAdd, Nat.reduceLeDiff, gN_I, gN_L, gN_P, bI_0, bI_ok, z0, z1, Bool.true_eq, Bool.false_eq_true, not_true_eq_false, not_false_eq_true]
theorem dr_nr {a s p : Nat} : drI a s p 100 = nrI a s p := by
  unfold drI
  rw [show ((100 : Nat) : Int) = 100 from rfl, Int.mul_tdiv_cancel _ (by decide)]
  omega
end
