/-! ===== the library sorts a row: one sorted in after another; as a heap ===== -/
section
variable {d : Nat} {h : aHf} {r : Nat × Nat × Nat × Nat} {p N : Nat}
theorem is_in {lo k x : Nat} {l2 : Int32} (hN : N ≤ 2000) (hk : k < N) (hx : bd x) : ∀ (m i : Nat) (C : Nat → Nat), i = lo + m → i ≤ k → (∀ j, bd (C j)) → hO1 lo i (k + 1) C x → ∃ C', prm lo (k + 1) (upN C i x) C' ∧ sor C' lo (k + 1) ∧ ∃ z,
    L d 274 31 [some (.ref p), some (.int (iI lo)), some (.int l2), some (.int (iI i)), some (.int (iI k)), some (.long (lI x)), none] [] (lw h p N C, r) = L d 274 3 [some (.ref p), some (.int (iI lo)), some (.int l2), some (.int z), some (.int (iI k)), some (.long (lI x)), none] [] (lw h p N C', r) := by
  intro m
  induction m with
  | zero =>
    intro i C hi hik hC hH
    obtain rfl : i = lo := by omega
    have c1 : (i : Int) + -1 < i := by omega
    have e1 : (i : Int) + -1 + 1 = (i : Int) := by omega
    refine ⟨upN C i x, prm_r _ _ _, hO1_e hH (by omega) (Or.inl (Nat.le_refl _)), iI ((i : Int) + -1), ?_⟩
    rw [r274_31]
    simp (disch := omega) only [r274_0, r274_1, r274_6, r274_8, r274_9, r274_12, r274_12n, r274_13, r274_15i, r274_15, r274_16, r274_17, r274_18, r274_20, r274_22, r274_22n, r274_23, r274_24, r274_25, r274_26, r274_27, r274_28, r274_34, r274_35, r274_36, r274_39, r274_41, r274_41n, r274_42, r274_43, r274_44, r274_45, r274_48, r274_48n, r274_49, r274_50, r274_51, r274_52, r274_52n, r274_53, r274_54, r274_55, r274_56, r274_59, r274_59n, r274_60, r274_61, r274_62, r274_63, r274_65, r274_66, r274_69, iI_add, iI_lt, c1, e1, lw_s, lw_u, kl_n, kl_i, kl_r, kl_z, kl_l, kl_d, catS_0, catS_c, cat_i, cat_l, cat_d, cat_r, cat_n, kC_r, kC_x, Option.bind_some, Option.toList_some, Option.toList_none, List.cons_append, List.nil_append, gB0, gB1, gB2, gB3, gB4, rvB, nI_iI, i0, i1, l0_, wr_s, aup_s, and_true, true_and, and_self, eq_self, if_true, if_false, Nat.zero_le, Nat.reduceAdd, Nat.reduceLeDiff, gN_I, gN_L, gN_P, bI_0, bI_ok, z0, z1, Bool.true_eq, Bool.false_eq_true, not_true_eq_false, not_false_eq_true]
  | succ m ih =>
    intro i C hi hik hC hH
    obtain rfl : i = lo + m + 1 := by omega
    have c1 : ¬ ((lo + m : Nat) : Int) < lo := by omega
    have e1 : ((lo + m + 1 : Nat) : Int) + -1 = ((lo + m : Nat) : Int) := by omega
    have e2 : ((lo + m : Nat) : Int) + 1 = ((lo + m + 1 : Nat) : Int) := by omega
    have b1 : C (lo + m) < 4398046511104 := hC _
    have b2 : x < 4398046511104 := hx
    by_cases q : C (lo + m) ≤ x
    · refine ⟨upN C (lo + m + 1) x, prm_r _ _ _, hO1_e hH (by omega) (Or.inr q), iI ((lo + m : Nat) : Int), ?_⟩
      rw [r274_31]
      simp (disch := omega) only [r274_0, r274_1, r274_6, r274_8, r274_9, r274_12, r274_12n, r274_13, r274_15i, r274_15, r274_16, r274_17, r274_18, r274_20, r274_22, r274_22n, r274_23, r274_24, r274_25, r274_26, r274_27, r274_28, r274_34, r274_35, r274_36, r274_39, r274_41, r274_41n, r274_42, r274_43, r274_44, r274_45, r274_48, r274_48n, r274_49, r274_50, r274_51, r274_52, r274_52n, r274_53, r274_54, r274_55, r274_56, r274_59, r274_59n, r274_60, r274_61, r274_62, r274_63, r274_65, r274_66, r274_69, iI_add, e1, iI_lt, c1, lw_g, lc_ge, eL_le, q, e2, lw_s, lw_u, kl_n, kl_i, kl_r, kl_z, kl_l, kl_d, catS_0, catS_c, cat_i, cat_l, cat_d, cat_r, cat_n, kC_r, kC_x, Option.bind_some, Option.toList_some, Option.toList_none, List.cons_append, List.nil_append, gB0, gB1, gB2, gB3, gB4, rvB, nI_iI, i0, i1, l0_, wr_s, aup_s, and_true, true_and, and_self, eq_self, if_true, if_false, Nat.zero_le, Nat.reduceAdd, Nat.reduceLeDiff, gN_I, gN_L, gN_P, bI_0, bI_ok, z0, z1, Bool.true_eq, Bool.false_eq_true, not_true_eq_false, not_false_eq_true]
    · obtain ⟨C', p1, s1, z, hl⟩ := ih (lo + m) (upN C (lo + m + 1) (C (lo + m))) rfl (by omega) (upN_ok b1 hC) (hO1_s hH (by omega) (by omega) (by show x ≤ C (lo + m + 1 - 1); rw [Nat.add_sub_cancel]; omega))
      refine ⟨C', prm_t (hole_s (by omega) (by omega) (by omega)) p1, s1, z, ?_⟩
      rw [r274_31]
      simp (disch := omega) only [r274_0, r274_1, r274_6, r274_8, r274_9, r274_12, r274_12n, r274_13, r274_15i, r274_15, r274_16, r274_17, r274_18, r274_20, r274_22, r274_22n, r274_23, r274_24, r274_25, r274_26, r274_27, r274_28, r274_34, r274_35, r274_36, r274_39, r274_41, r274_41n, r274_42, r274_43, r274_44, r274_45, r274_48, r274_48n, r274_49, r274_50, r274_51, r274_52, r274_52n, r274_53, r274_54, r274_55, r274_56, r274_59, r274_59n, r274_60, r274_61, r274_62, r274_63, r274_65, r274_66, r274_69, iI_add, e1, iI_lt, c1, lw_g, lc_ge, eL_le, q, e2, lw_s, lw_u, kl_n, kl_i, kl_r, kl_z, kl_l, kl_d, catS_0, catS_c, cat_i, cat_l, cat_d, cat_r, cat_n, kC_r, kC_x, Option.bind_some, Option.toList_some, Option.toList_none, List.cons_append, List.nil_append, gB0, gB1, gB2, gB3, gB4, rvB, nI_iI, i0, i1, l0_, wr_s, aup_s, and_true, true_and, and_self, eq_self, if_true, if_false, Nat.zero_le, Nat.reduceAdd, Nat.reduceLeDiff, gN_I, gN_L, gN_P, bI_0, bI_ok, z0, z1, Bool.true_eq, Bool.false_eq_true, not_true_eq_false, not_false_eq_true]
      exact hl
theorem is_out {lo hi : Nat} (hN : N ≤ 2000) (hh : hi ≤ N) : ∀ (s k : Nat) (C : Nat → Nat), k + 1 + s = hi → lo ≤ k → (∀ j, bd (C j)) → sor C lo (k + 1) → ∀ l3 l5 l6 : Option Value, ∃ C', prm lo hi C C' ∧ sor C' lo hi ∧
    L d 274 3 [some (.ref p), some (.int (iI lo)), some (.int (iI hi)), l3, some (.int (iI k)), l5, l6] [] (lw h p N C, r) = some (.inl none, (lw h p N C', r)) := by
  intro s
  induction s with
  | zero =>
    intro k C hk hlo hC hs l3 l5 l6
    obtain rfl : hi = k + 1 := by omega
    have e1 : (k : Int) + 1 = ((k + 1 : Nat) : Int) := by omega
    refine ⟨C, prm_r _ _ _, hs, ?_⟩
    rw [r274_3]
    simp (disch := omega) only [r274_0, r274_1, r274_6, r274_8, r274_9, r274_12, r274_12n, r274_13, r274_15i, r274_15, r274_16, r274_17, r274_18, r274_20, r274_22, r274_22n, r274_23, r274_24, r274_25, r274_26, r274_27, r274_28, r274_34, r274_35, r274_36, r274_39, r274_41, r274_41n, r274_42, r274_43, r274_44, r274_45, r274_48, r274_48n, r274_49, r274_50, r274_51, r274_52, r274_52n, r274_53, r274_54, r274_55, r274_56, r274_59, r274_59n, r274_60, r274_61, r274_62, r274_63, r274_65, r274_66, r274_69, iI_add, e1, iI_le, Int.le_refl, kl_n, kl_i, kl_r, kl_z, kl_l, kl_d, catS_0, catS_c, cat_i, cat_l, cat_d, cat_r, cat_n, kC_r, kC_x, Option.bind_some, Option.toList_some, Option.toList_none, List.cons_append, List.nil_append, gB0, gB1, gB2, gB3, gB4, rvB, nI_iI, i0, i1, l0_, wr_s, aup_s, and_true, true_and, and_self, eq_self, if_true, if_false, Nat.zero_le, Nat.reduceAdd, Nat.reduceLeDiff, gN_I, gN_L, gN_P, bI_0, bI_ok, z0, z1, Bool.true_eq, Bool.false_eq_true, not_true_eq_false, not_false_eq_true]
  | succ s ih =>
    intro k C hk hlo hC hs l3 l5 l6
    have e1 : (k : Int) + 1 = ((k + 1 : Nat) : Int) := by omega
    have e2 : ((k + 1 : Nat) : Int) - 1 = (k : Int) := by omega
    have c1 : ¬ (hi : Int) ≤ ((k + 1 : Nat) : Int) := by omega
    have b1 : C k < 4398046511104 := hC _
    have b2 : C (k + 1) < 4398046511104 := hC _
    by_cases q : C k ≤ C (k + 1)
    · obtain ⟨C', p1, s1, hl⟩ := ih (k + 1) C (by omega) (by omega) hC (sor_1 hs (Or.inr q)) (some (.int (iI ((k + 1 : Nat) : Int)))) (some (.long (lI (C (k + 1))))) none
      refine ⟨C', p1, s1, ?_⟩
      rw [r274_3]
      simp (disch := omega) only [r274_0, r274_1, r274_6, r274_8, r274_9, r274_12, r274_12n, r274_13, r274_15i, r274_15, r274_16, r274_17, r274_18, r274_20, r274_22, r274_22n, r274_23, r274_24, r274_25, r274_26, r274_27, r274_28, r274_34, r274_35, r274_36, r274_39, r274_41, r274_41n, r274_42, r274_43, r274_44, r274_45, r274_48, r274_48n, r274_49, r274_50, r274_51, r274_52, r274_52n, r274_53, r274_54, r274_55, r274_56, r274_59, r274_59n, r274_60, r274_61, r274_62, r274_63, r274_65, r274_66, r274_69, iI_add, e1, iI_le, c1, lw_g, iI_sub, e2, lc_ge, eL_le, q, hl, kl_n, kl_i, kl_r, kl_z, kl_l, kl_d, catS_0, catS_c, cat_i, cat_l, cat_d, cat_r, cat_n, kC_r, kC_x, Option.bind_some, Option.toList_some, Option.toList_none, List.cons_append, List.nil_append, gB0, gB1, gB2, gB3, gB4, rvB, nI_iI, i0, i1, l0_, wr_s, aup_s, and_true, true_and, and_self, eq_self, if_true, if_false, Nat.zero_le, Nat.reduceAdd, Nat.reduceLeDiff, gN_I, gN_L, gN_P, bI_0, bI_ok, z0, z1, Bool.true_eq, Bool.false_eq_true, not_true_eq_false, not_false_eq_true]
    · obtain ⟨C1, p1, s1, z, hl⟩ := is_in (d := d) (h := h) (r := r) (p := p) (lo := lo) (k := k + 1) (x := C (k + 1)) (l2 := iI hi) hN (by omega) b2 (k + 1 - lo) (k + 1) C (by omega) (Nat.le_refl _) hC (hO1_0 hs)
      rw [upN_id] at p1
      obtain ⟨C', p2, s2, hl2⟩ := ih (k + 1) C1 (by omega) (by omega) (prm_bd p1 hC) s1 (some (.int z)) (some (.long (lI (C (k + 1))))) none
      refine ⟨C', prm_t (prm_m p1 (Nat.le_refl _) (by omega)) p2, s2, ?_⟩
      rw [r274_3]
      simp (disch := omega) only [r274_0, r274_1, r274_6, r274_8, r274_9, r274_12, r274_12n, r274_13, r274_15i, r274_15, r274_16, r274_17, r274_18, r274_20, r274_22, r274_22n, r274_23, r274_24, r274_25, r274_26, r274_27, r274_28, r274_34, r274_35, r274_36, r274_39, r274_41, r274_41n, r274_42, r274_43, r274_44, r274_45, r274_48, r274_48n, r274_49, r274_50, r274_51, r274_52, r274_52n, r274_53, r274_54, r274_55, r274_56, r274_59, r274_59n, r274_60, r274_61, r274_62, r274_63, r274_65, r274_66, r274_69, iI_add, e1, iI_le, c1, lw_g, iI_sub, e2, lc_ge, eL_le, q, hl, hl2, kl_n, kl_i, kl_r, kl_z, kl_l, kl_d, catS_0, catS_c, cat_i, cat_l, cat_d, cat_r, cat_n, kC_r, kC_x, Option.bind_some, Option.toList_some, Option.toList_none, List.cons_append, List.nil_append, gB0, gB1, gB2, gB3, gB4, rvB, nI_iI, i0, i1, l0_, wr_s, aup_s, and_true, true_and, and_self, eq_self, if_true, if_false, Nat.zero_le, Nat.reduceAdd, Nat.reduceLeDiff, gN_I, gN_L, gN_P, bI_0, bI_ok, z0, z1, Bool.true_eq, Bool.false_eq_true, not_true_eq_false, not_false_eq_true]
theorem s_isort {lo hi : Nat} {C : Nat → Nat} (hN : N ≤ 2000) (hh : lo ≤ hi ∧ hi ≤ N) (hC : ∀ j, bd (C j)) : ∃ C', prm lo hi C C' ∧ sor C' lo hi ∧
    aE (d + 1) 274 [.ref p, .int (iI lo), .int (iI hi)] (lw h p N C, r) = some (.inl none, (lw h p N C', r)) := by
  by_cases q : lo = hi
  · subst q
    have c1 : (lo : Int) ≤ (lo : Int) + 1 := by omega
    refine ⟨C, prm_r _ _ _, sor_s (by omega), ?_⟩
    rw [e274]
    simp (disch := omega) only [r274_0, r274_1, kl_n, kl_i, kl_r, kl_z, kl_l, kl_d, catS_0, catS_c, cat_i, cat_l, cat_d, cat_r, cat_n, kC_r, kC_x, Option.bind_some, Option.toList_some, Option.toList_none, List.cons_append, List.nil_append, gB0, gB1, gB2, gB3, gB4, rvB, nI_iI, i0, i1, l0_, wr_s, aup_s, and_true, true_and, and_self, eq_self, if_true, if_false, Nat.zero_le, Nat.reduceAdd, Nat.reduceLeDiff, gN_I, gN_L, gN_P, bI_0, bI_ok, z0, z1, Bool.true_eq, Bool.false_eq_true, not_true_eq_false, not_false_eq_true]
    rw [r274_3]
    simp (disch := omega) only [r274_0, r274_1, r274_6, r274_8, r274_9, r274_12, r274_12n, r274_13, r274_15i, r274_15, r274_16, r274_17, r274_18, r274_20, r274_22, r274_22n, r274_23, r274_24, r274_25, r274_26, r274_27, r274_28, r274_34, r274_35, r274_36, r274_39, r274_41, r274_41n, r274_42, r274_43, r274_44, r274_45, r274_48, r274_48n, r274_49, r274_50, r274_51, r274_52, r274_52n, r274_53, r274_54, r274_55, r274_56, r274_59, r274_59n, r274_60, r274_61, r274_62, r274_63, r274_65, r274_66, r274_69, iI_add, iI_le, c1, kl_n, kl_i, kl_r, kl_z, kl_l, kl_d, catS_0, catS_c, cat_i, cat_l, cat_d, cat_r, cat_n, kC_r, kC_x, Option.bind_some, Option.toList_some, Option.toList_none, List.cons_append, List.nil_append, gB0, gB1, gB2, gB3, gB4, rvB, nI_iI, i0, i1, l0_, wr_s, aup_s, and_true, true_and, and_self, eq_self, if_true, if_false, Nat.zero_le, Nat.reduceAdd, Nat.reduceLeDiff, gN_I, gN_L, gN_P, bI_0, bI_ok, z0, z1, Bool.true_eq, Bool.false_eq_true, not_true_eq_false, not_false_eq_true]
  · obtain ⟨C', p1, s1, hl⟩ := is_out (d := d) (h := h) (r := r) (p := p) (lo := lo) hN hh.2 (hi - lo - 1) lo C (by omega) (Nat.le_refl _) hC (sor_s (Nat.le_refl _)) none none none
    refine ⟨C', p1, s1, ?_⟩
    rw [e274]
    simp (disch := omega) only [r274_0, r274_1, hl, kl_n, kl_i, kl_r, kl_z, kl_l, kl_d, catS_0, catS_c, cat_i, cat_l, cat_d, cat_r, cat_n, kC_r, kC_x, Option.bind_some, Option.toList_some, Option.toList_none, List.cons_append, List.nil_append, gB0, gB1, gB2, gB3, gB4, rvB, nI_iI, i0, i1, l0_, wr_s, aup_s, and_true, true_and, and_self, eq_self, if_true, if_false, Nat.zero_le, Nat.reduceAdd, Nat.reduceLeDiff, gN_I, gN_L, gN_P, bI_0, bI_ok, z0, z1, Bool.true_eq, Bool.false_eq_true, not_true_eq_false, not_false_eq_true]
end
/-! ===== as a heap ===== -/
/-- from the node s on, those below a node are not greater -/
def hp (lo hi s : Nat) (C : Nat → Nat) : Prop := ∀ q c, s ≤ q → (c = 2 * q + 1 - lo ∨ c = 2 * q + 2 - lo) → c < hi → C c ≤ C q
/-- the same, the node f free, x coming there -/
def Hh (lo hi s f : Nat) (C : Nat → Nat) (x : Nat) : Prop := (∀ q c, s ≤ q → q ≠ f → (c = 2 * q + 1 - lo ∨ c = 2 * q + 2 - lo) → c < hi → c ≠ f → C c ≤ C q) ∧
  ∀ q, s ≤ q → (f = 2 * q + 1 - lo ∨ f = 2 * q + 2 - lo) → x ≤ C q ∧ ∀ c, (c = 2 * f + 1 - lo ∨ c = 2 * f + 2 - lo) → c < hi → C c ≤ C q
theorem Hh_s {lo hi s f k x : Nat} {C : Nat → Nat} (hs : lo ≤ s) (hf : s ≤ f) (h : Hh lo hi s f C x) (hk : k = 2 * f + 1 - lo ∨ k = 2 * f + 2 - lo) (h1 : k < hi) (hx : x ≤ C k) (hm : ∀ c, (c = 2 * f + 1 - lo ∨ c = 2 * f + 2 - lo) → c < hi → C c ≤ C k) : Hh lo hi s k (upN C f (C k)) x := by
  refine ⟨fun q c h2 h3 h4 h5 h6 => ?_, fun q h2 h3 => ?_⟩
  · by_cases e1 : q = f
    · rw [e1] at h4 ⊢
      rw [upN_at, upN_o (by omega)]
      exact hm c h4 h5
    · rw [upN_o e1]
      by_cases e2 : c = f
      · rw [e2, upN_at]
        rw [e2] at h4
        exact (h.2 q h2 h4).2 k hk h1
      · rw [upN_o e2]
        exact h.1 q c h2 e1 h4 h5 e2
  · obtain rfl : q = f := by omega
    rw [upN_at]
    refine ⟨hx, fun c h4 h5 => ?_⟩
    rw [upN_o (by omega)]
    exact h.1 k c (by omega) (by omega) h4 h5 (by omega)
theorem Hh_e {lo hi s f x : Nat} {C : Nat → Nat} (hs : lo ≤ s) (h : Hh lo hi s f C x) (hm : ∀ c, (c = 2 * f + 1 - lo ∨ c = 2 * f + 2 - lo) → c < hi → C c ≤ x) : hp lo hi s (upN C f x) := fun q c h2 h4 h5 => by
  by_cases e1 : q = f
  · rw [e1] at h2 h4 ⊢
    rw [upN_at, upN_o (by omega)]
    exact hm c h4 h5
  · rw [upN_o e1]
    by_cases e2 : c = f
    · rw [e2, upN_at]
      rw [e2] at h4
      exact (h.2 q h2 h4).1
    · rw [upN_o e2]
      exact h.1 q c h2 e1 h4 h5 e2
theorem hp_max {lo hi : Nat} {C : Nat → Nat} (h : hp lo hi lo C) : ∀ i, lo ≤ i → i < hi → C i ≤ C lo := fun i => by
  induction i using Nat.strongRecOn with
  | ind i ih =>
    intro h1 h2
    by_cases e : i = lo
    · rw [e]
      exact Nat.le_refl _
    · have a1 := h (lo + (i - lo - 1) / 2) i (by omega) (by omega) h2
      have a2 := ih (lo + (i - lo - 1) / 2) (by omega) (by omega) (by omega)
      omega
theorem prm_up {a b b' j z : Nat} {C D : Nat → Nat} (h : prm a b C D) (h1 : b ≤ j) (h2 : j < b') : prm a b' (upN C j z) (upN D j z) := by
  refine ⟨fun i hi => ?_, fun v => ?_⟩
  · by_cases e : i = j
    · rw [e, upN_at, upN_at]
    · rw [upN_o e, upN_o e, h.1 i (by omega)]
  · have e1 := cn_upN (F := C) (p := j) (c := z) (v := v) h2
    have e2 := cn_upN (F := D) (p := j) (c := z) (v := v) h2
    rw [h.1 j (Or.inr h1), (prm_m h (Nat.le_refl a) (show b ≤ b' by omega)).2 v] at e2
    omega
theorem shr1_f : ∀ a b : Fin 64, ((iI ((a.val * 64 + b.val : Nat) : Int)).toUInt32 >>> ((iI 1).toUInt32 &&& Int32.toUInt32 31)).toInt32 = iI (((a.val * 64 + b.val) / 2 : Nat) : Int) := by decide +kernel
theorem ushr1 {a : Nat} (h : a ≤ 4000) : ((iI (a : Int)).toUInt32 >>> ((iI 1).toUInt32 &&& Int32.toUInt32 31)).toInt32 = iI ((a / 2 : Nat) : Int) := by
  have e := shr1_f ⟨a / 64, by omega⟩ ⟨a % 64, by omega⟩
  rw [show a / 64 * 64 + a % 64 = a by omega] at e
  exact e
theorem ishl1 {a : Int} : iI a <<< (iI 1 &&& 31) = iI (a * 2) := by
  have e := ishl a 1 (by decide)
  exact e
section
variable {d : Nat} {h : aHf} {r : Nat × Nat × Nat × Nat} {p N : Nat}
theorem pd_loop {lo hi s x : Nat} (hN : N ≤ 2000) (hh : lo ≤ s ∧ hi ≤ N) (hx : bd x) : ∀ (m f : Nat) (C : Nat → Nat), f + m = hi → 0 < m → s ≤ f → (∀ j, bd (C j)) → Hh lo hi s f C x → ∀ l6 : Option Value, ∃ C', prm lo hi (upN C f x) C' ∧ hp lo hi s C' ∧
    L d 277 0 [some (.ref p), some (.int (iI f)), some (.long (lI x)), none, some (.int (iI lo)), some (.int (iI hi)), l6] [] (lw h p N C, r) = some (.inl none, (lw h p N C', r)) := by
  intro m
  induction m using Nat.strongRecOn with
  | ind m ih =>
    intro f C hf hm hs hC hH l6
    have e1 : (f : Int) * 2 - lo + 2 = ((2 * f + 2 - lo : Nat) : Int) := by omega
    have e3 : ((2 * f + 2 - lo : Nat) : Int) + -1 = ((2 * f + 1 - lo : Nat) : Int) := by omega
    have e4 : ((2 * f + 2 - lo : Nat) : Int) - 1 = ((2 * f + 1 - lo : Nat) : Int) := by omega
    have b1 : C (2 * f + 1 - lo) < 4398046511104 := hC _
    have b2 : C (2 * f + 2 - lo) < 4398046511104 := hC _
    have b3 : x < 4398046511104 := hx
    rw [r277_0]
    by_cases q1 : 2 * f + 2 - lo ≤ hi
    · have c1 : ((2 * f + 2 - lo : Nat) : Int) ≤ hi := by omega
      have key : ∀ k, (k = 2 * f + 1 - lo ∨ k = 2 * f + 2 - lo) → k < hi → (∀ c, (c = 2 * f + 1 - lo ∨ c = 2 * f + 2 - lo) → c < hi → C c ≤ C k) → ∃ C', prm lo hi (upN C f x) C' ∧ hp lo hi s C' ∧
          L d 277 44 [some (.ref p), some (.int (iI f)), some (.long (lI x)), none, some (.int (iI lo)), some (.int (iI hi)), some (.int (iI k))] [] (lw h p N C, r) = some (.inl none, (lw h p N C', r)) := by
        intro k hk hk2 hm2
        have b4 : C k < 4398046511104 := hC _
        by_cases q2 : C k ≤ x
        · refine ⟨upN C f x, prm_r _ _ _, Hh_e hh.1 hH (fun c h1 h2 => Nat.le_trans (hm2 c h1 h2) q2), ?_⟩
          have q3 : ¬ x < C k := by omega
          simp (disch := omega) only [r277_1, r277_2, r277_3, r277_5, r277_6, r277_7, r277_8, r277_10, r277_12, r277_14, r277_17, r277_20, r277_22, r277_24, r277_27, r277_27n, r277_28, r277_30, r277_31, r277_31n, r277_32, r277_34, r277_35, r277_36, r277_37, r277_38, r277_41, r277_44, r277_44n, r277_45, r277_47, r277_48, r277_49, r277_50, r277_53, r277_56, r277_56n, r277_57, r277_58, r277_58n, r277_59, r277_61i, r277_61, r277_62, r277_63, r277_64, r277_65, r277_68, r277_68n, r277_69, r277_70, r277_71, r277_72, lw_g, lc_gt, eL_lt, q3, lw_s, lw_u, kl_n, kl_i, kl_r, kl_z, kl_l, kl_d, catS_0, catS_c, cat_i, cat_l, cat_d, cat_r, cat_n, kC_r, kC_x, Option.bind_some, Option.toList_some, Option.toList_none, List.cons_append, List.nil_append, gB0, gB1, gB2, gB3, gB4, rvB, nI_iI, i0, i1, l0_, wr_s, aup_s, and_true, true_and, and_self, eq_self, if_true, if_false, Nat.zero_le, Nat.reduceAdd, Nat.reduceLeDiff, gN_I, gN_L, gN_P, bI_0, bI_ok, z0, z1, Bool.true_eq, Bool.false_eq_true, not_true_eq_false, not_false_eq_true]
        · have q3 : x < C k := by omega
          obtain ⟨C', p1, s1, hl⟩ := ih (hi - k) (by omega) k (upN C f (C k)) (by omega) (by omega) (by omega) (upN_ok b4 hC) (Hh_s hh.1 hs hH hk hk2 (by omega) hm2) (some (.int (iI k)))
          refine ⟨C', prm_t (hole_s (by omega) (by omega) (by omega)) p1, s1, ?_⟩
          simp (disch := omega) only [r277_1, r277_2, r277_3, r277_5, r277_6, r277_7, r277_8, r277_10, r277_12, r277_14, r277_17, r277_20, r277_22, r277_24, r277_27, r277_27n, r277_28, r277_30, r277_31, r277_31n, r277_32, r277_34, r277_35, r277_36, r277_37, r277_38, r277_41, r277_44, r277_44n, r277_45, r277_47, r277_48, r277_49, r277_50, r277_53, r277_56, r277_56n, r277_57, r277_58, r277_58n, r277_59, r277_61i, r277_61, r277_62, r277_63, r277_64, r277_65, r277_68, r277_68n, r277_69, r277_70, r277_71, r277_72, lw_g, lc_gt, eL_lt, q3, lw_s, lw_u, hl, kl_n, kl_i, kl_r, kl_z, kl_l, kl_d, catS_0, catS_c, cat_i, cat_l, cat_d, cat_r, cat_n, kC_r, kC_x, Option.bind_some, Option.toList_some, Option.toList_none, List.cons_append, List.nil_append, gB0, gB1, gB2, gB3, gB4, rvB, nI_iI, i0, i1, l0_, wr_s, aup_s, and_true, true_and, and_self, eq_self, if_true, if_false, Nat.zero_le, Nat.reduceAdd, Nat.reduceLeDiff, gN_I, gN_L, gN_P, bI_0, bI_ok, z0, z1, Bool.true_eq, Bool.false_eq_true, not_true_eq_false, not_false_eq_true]
      by_cases q2 : 2 * f + 2 - lo = hi
      · have c2 : ((2 * f + 2 - lo : Nat) : Int) = hi := by omega
        obtain ⟨C', p1, s1, hl⟩ := key (2 * f + 1 - lo) (Or.inl rfl) (by omega) (fun c h1 h2 => by
          obtain rfl : c = 2 * f + 1 - lo := by omega
          exact Nat.le_refl _)
        refine ⟨C', p1, s1, ?_⟩
        rw [c2] at e3
        simp (disch := omega) only [r277_1, r277_2, r277_3, r277_5, r277_6, r277_7, r277_8, r277_10, r277_12, r277_14, r277_17, r277_20, r277_22, r277_24, r277_27, r277_27n, r277_28, r277_30, r277_31, r277_31n, r277_32, r277_34, r277_35, r277_36, r277_37, r277_38, r277_41, ishl1, iI_sub, iI_add, e1, iI_le, Int.le_refl, c2, e3, hl, kl_n, kl_i, kl_r, kl_z, kl_l, kl_d, catS_0, catS_c, cat_i, cat_l, cat_d, cat_r, cat_n, kC_r, kC_x, Option.bind_some, Option.toList_some, Option.toList_none, List.cons_append, List.nil_append, gB0, gB1, gB2, gB3, gB4, rvB, nI_iI, i0, i1, l0_, wr_s, aup_s, and_true, true_and, and_self, eq_self, if_true, if_false, Nat.zero_le, Nat.reduceAdd, Nat.reduceLeDiff, gN_I, gN_L, gN_P, bI_0, bI_ok, z0, z1, Bool.true_eq, Bool.false_eq_true, not_true_eq_false, not_false_eq_true]
      · have c2 : ¬ ((2 * f + 2 - lo : Nat) : Int) = hi := by omega
        by_cases q3 : C (2 * f + 1 - lo) ≤ C (2 * f + 2 - lo)
        · obtain ⟨C', p1, s1, hl⟩ := key (2 * f + 2 - lo) (Or.inr rfl) (by omega) (fun c h1 h2 => by
            rcases h1 with h1 | h1
            · rw [h1]
              exact q3
            · rw [h1]
              exact Nat.le_refl _)
          refine ⟨C', p1, s1, ?_⟩
          simp (disch := omega) only [r277_1, r277_2, r277_3, r277_5, r277_6, r277_7, r277_8, r277_10, r277_12, r277_14, r277_17, r277_20, r277_22, r277_24, r277_27, r277_27n, r277_28, r277_30, r277_31, r277_31n, r277_32, r277_34, r277_35, r277_36, r277_37, r277_38, r277_41, ishl1, iI_sub, iI_add, e1, iI_le, c1, iI_eq, c2, e4, lw_g, lc_ge, eL_le, q3, hl, kl_n, kl_i, kl_r, kl_z, kl_l, kl_d, catS_0, catS_c, cat_i, cat_l, cat_d, cat_r, cat_n, kC_r, kC_x, Option.bind_some, Option.toList_some, Option.toList_none, List.cons_append, List.nil_append, gB0, gB1, gB2, gB3, gB4, rvB, nI_iI, i0, i1, l0_, wr_s, aup_s, and_true, true_and, and_self, eq_self, if_true, if_false, Nat.zero_le, Nat.reduceAdd, Nat.reduceLeDiff, gN_I, gN_L, gN_P, bI_0, bI_ok, z0, z1, Bool.true_eq, Bool.false_eq_true, not_true_eq_false, not_false_eq_true]
        · obtain ⟨C', p1, s1, hl⟩ := key (2 * f + 1 - lo) (Or.inl rfl) (by omega) (fun c h1 h2 => by
            rcases h1 with h1 | h1
            · rw [h1]
              exact Nat.le_refl _
            · rw [h1]
              omega)
          refine ⟨C', p1, s1, ?_⟩
          simp (disch := omega) only [r277_1, r277_2, r277_3, r277_5, r277_6, r277_7, r277_8, r277_10, r277_12, r277_14, r277_17, r277_20, r277_22, r277_24, r277_27, r277_27n, r277_28, r277_30, r277_31, r277_31n, r277_32, r277_34, r277_35, r277_36, r277_37, r277_38, r277_41, ishl1, iI_sub, iI_add, e1, iI_le, c1, iI_eq, c2, e4, lw_g, lc_ge, eL_le, q3, e3, hl, kl_n, kl_i, kl_r, kl_z, kl_l, kl_d, catS_0, catS_c, cat_i, cat_l, cat_d, cat_r, cat_n, kC_r, kC_x, Option.bind_some, Option.toList_some, Option.toList_none, List.cons_append, List.nil_append, gB0, gB1, gB2, gB3, gB4, rvB, nI_iI, i0, i1, l0_, wr_s, aup_s, and_true, true_and, and_self, eq_self, if_true, if_false, Nat.zero_le, Nat.reduceAdd, Nat.reduceLeDiff, gN_I, gN_L, gN_P, bI_0, bI_ok, z0, z1, Bool.true_eq, Bool.false_eq_true, not_true_eq_false, not_false_eq_true]
    · have c1 : ¬ ((2 * f + 2 - lo : Nat) : Int) ≤ hi := by omega
      refine ⟨upN C f x, prm_r _ _ _, Hh_e hh.1 hH (fun c h1 h2 => by omega), ?_⟩
      simp (disch := omega) only [r277_1, r277_2, r277_3, r277_5, r277_6, r277_7, r277_8, r277_10, r277_12, r277_14, r277_17, r277_20, r277_22, r277_24, r277_27, r277_27n, r277_28, r277_30, r277_31, r277_31n, r277_32, r277_34, r277_35, r277_36, r277_37, r277_38, r277_41, r277_44, r277_44n, r277_45, r277_47, r277_48, r277_49, r277_50, r277_53, r277_56, r277_56n, r277_57, r277_58, r277_58n, r277_59, r277_61i, r277_61, r277_62, r277_63, r277_64, r277_65, r277_68, r277_68n, r277_69, r277_70, r277_71, r277_72, ishl1, iI_sub, iI_add, e1, iI_le, c1, lw_s, lw_u, kl_n, kl_i, kl_r, kl_z, kl_l, kl_d, catS_0, catS_c, cat_i, cat_l, cat_d, cat_r, cat_n, kC_r, kC_x, Option.bind_some, Option.toList_some, Option.toList_none, List.cons_append, List.nil_append, gB0, gB1, gB2, gB3, gB4, rvB, nI_iI, i0, i1, l0_, wr_s, aup_s, and_true, true_and, and_self, eq_self, if_true, if_false, Nat.zero_le, Nat.reduceAdd, Nat.reduceLeDiff, gN_I, gN_L, gN_P, bI_0, bI_ok, z0, z1, Bool.true_eq, Bool.false_eq_true, not_true_eq_false, not_false_eq_true]
theorem s_pushDown {lo hi s f x : Nat} {C : Nat → Nat} (hN : N ≤ 2000) (hh : lo ≤ s ∧ hi ≤ N) (hf : s ≤ f ∧ f < hi) (hx : bd x) (hC : ∀ j, bd (C j)) (hH : Hh lo hi s f C x) : ∃ C', prm lo hi (upN C f x) C' ∧ hp lo hi s C' ∧
    aE (d + 1) 277 [.ref p, .int (iI f), .long (lI x), .int (iI lo), .int (iI hi)] (lw h p N C, r) = some (.inl none, (lw h p N C', r)) := by
  obtain ⟨C', p1, s1, hl⟩ := pd_loop (d := d) (h := h) (r := r) (p := p) hN hh hx (hi - f) f C (by omega) (by omega) hf.1 hC hH none
  exact ⟨C', p1, s1, by rw [e277, hl]⟩
end
