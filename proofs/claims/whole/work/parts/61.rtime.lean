/-! ===== the reference: times and ticks ===== -/
/-- the speeds as they lie in the row of all numbers -/
def spA (A : Nat → Int32) (n : Nat) (P V : Nat → Nat) : Prop := A 325 = iI n ∧ (∀ i, i < n → A (326 + 2 * i) = iI (P i)) ∧ ∀ i, i < n → A (327 + 2 * i) = iI (V i)
section
variable {d : Nat} {h : aHf} {r : Nat × Nat × Nat × Nat} {y : Nat} {M : Md}
theorem gI_N {N : Nat} {f : Nat → Int32} {k : Nat} (hk : k < N) (hN : N < 2147483648) : gI (some (aI .int N f)) (iI (k : Int)) = some (f k) := by
  rw [gI_I (by omega) (by omega) (by omega), Int.toNat_natCast]
theorem tn_loop {n t : Nat} {P V B : Nat → Nat} (hA : spA M.2.1 n P V) (hM : mkOk n P V B) (hV : ∀ i, i < n → 0 < V i) (ht : t < 131072) : ∀ m i : Nat, i + m = n → ∀ l4 l5 l6 : Option Value,
    L (d + 1) 224 4 [some (.ref y), some (.int (iI t)), some (.int (iI (sm (tmT P V n t) i))), some (.int (iI i)), l4, l5, l6] [] (mdW h y M, r) = some (.inl (some (.int (iI (sm (tmT P V n t) n)))), (mdW h y M, r)) := by
  obtain ⟨m1, m2, m3, m4, m5, m6, m7⟩ := hM
  obtain ⟨a1, a2, a3⟩ := hA
  have g0 : gI (some (aI .int 385 M.2.1)) (iI 325) = some (iI n) := by
    have e := gI_N (N := 385) (f := M.2.1) (k := 325) (by omega) (by omega)
    rw [a1] at e
    exact e
  intro m
  induction m with
  | zero =>
    intro i hi l4 l5 l6
    obtain rfl : i = n := by omega
    have c1 : (i : Int) ≤ i := by omega
    rw [r224_4]
    simp (disch := omega) only [r224_0, r224_1, r224_2, r224_3, r224_5, r224_6, r224_9, r224_12, r224_13, r224_16, r224_19, r224_20, r224_21, r224_22, r224_23, r224_25, r224_26, r224_27, r224_28, r224_29, r224_32, r224_35, r224_36, r224_39, r224_40, r224_43, r224_45, r224_46, r224_47, r224_48, r224_51, r224_53, r224_55, r224_56, r224_58, r224_61, r224_62, r224_65, r224_67, r224_68, r224_69, r224_71, r224_73, r224_76, r224_77, r224_79, r224_80, r224_83, r224_84, r224_85, r224_88, r224_90, r224_91, r224_92, r224_93, r224_94, r224_95, r224_96, r224_97, r224_98, r224_101, r224_104, r224_105, md_0, md_1, g0, iI_le, c1, kl_n, kl_i, kl_r, kl_z, kl_l, kl_d, catS_0, catS_c, cat_i, cat_l, cat_d, cat_r, cat_n, kC_r, kC_x, Option.bind_some, Option.toList_some, Option.toList_none, List.cons_append, List.nil_append, gB0, gB1, gB2, gB3, gB4, rvB, nI_iI, i0, i1, l0_, wr_s, aup_s, and_true, true_and, and_self, eq_self, if_true, if_false, Nat.zero_le, Nat.reduceAdd, Nat.reduceLeDiff, gN_I, gN_L, gN_P, bI_0, bI_ok, z0, z1, Bool.true_eq, Bool.false_eq_true, not_true_eq_false, not_false_eq_true]
  | succ m ih =>
    intro i hi l4 l5 l6
    have c1 : ¬ (n : Int) ≤ i := by omega
    have e1 : (i : Int) + 1 = ((i + 1 : Nat) : Int) := by omega
    have p1 := m5 i
    have p2 := m5 (i + 1)
    have p3 := m6 i
    have p4 := tmTo_le P n t i
    have p5 := hV i (by omega)
    have f1 : 326 + 2 * (i : Int) = ((326 + 2 * i : Nat) : Int) := by omega
    have f2 : ((326 + 2 * i : Nat) : Int) + 1 = ((327 + 2 * i : Nat) : Int) := by omega
    have f3 : ((326 + 2 * i : Nat) : Int) + 2 = ((326 + 2 * (i + 1) : Nat) : Int) := by omega
    have gp : gI (some (aI .int 385 M.2.1)) (iI ((326 + 2 * i : Nat) : Int)) = some (iI (P i)) := by rw [gI_N (by omega) (by omega), a2 i (by omega)]
    have gv : gI (some (aI .int 385 M.2.1)) (iI ((327 + 2 * i : Nat) : Int)) = some (iI (V i)) := by rw [gI_N (by omega) (by omega), a3 i (by omega)]
    have h9 := fun l4 l5 l6 => ih (i + 1) (by omega) l4 l5 l6
    have key : ∀ (z : Int32) (l6 : Option Value), L (d + 1) 224 61 [some (.ref y), some (.int (iI t)), some (.int (iI (sm (tmT P V n t) i))), some (.int (iI i)), some (.int (iI (326 + 2 * i : Nat))), some (.int z), l6] [.int (iI (tmTo P n t i))] (mdW h y M, r) = some (.inl (some (.int (iI (sm (tmT P V n t) n)))), (mdW h y M, r)) := by
      intro z l6
      by_cases q1 : P i < tmTo P n t i
      · have c2 : ¬ (tmTo P n t i : Int) - P i ≤ 0 := by omega
        have e2 : (tmTo P n t i : Int) - P i = ((tmTo P n t i - P i : Nat) : Int) := by omega
        have c4 : ¬ ((V i : Nat) : Int) = 0 := by omega
        have e3 : (((tmTo P n t i - P i : Nat) : Int) * 62500 / ((V i : Nat) : Int)) = (((tmTo P n t i - P i) * 62500 / V i : Nat) : Int) := by
          have := cdiv ((tmTo P n t i - P i) * 62500) (V i)
          rw [Int.natCast_mul] at this
          exact this
        have e4 : ((sm (tmT P V n t) i : Nat) : Int) + (((tmTo P n t i - P i) * 62500 / V i : Nat) : Int) = ((sm (tmT P V n t) (i + 1) : Nat) : Int) := by
          show _ = ((sm (tmT P V n t) i + tmT P V n t i : Nat) : Int)
          rw [show tmT P V n t i = (tmTo P n t i - P i) * 62500 / V i from if_pos ⟨q1, p5⟩]
          exact (Int.natCast_add _ _).symm
        have c5 : ¬ ((tmTo P n t i - P i : Nat) : Int) ≤ 0 := by omega
        simp (disch := omega) only [r224_61, r224_62, r224_65, r224_67, r224_68, r224_69, r224_71, r224_73, r224_76, r224_77, r224_79, r224_80, r224_83, r224_84, r224_85, r224_88, r224_90, r224_91, r224_92, r224_93, r224_94, r224_95, r224_96, r224_97, r224_98, r224_101, md_0, md_1, gp, iI_sub, e2, iI_le, c5, i_l, lI_mul, f2, gv, lI_eq, c4, lI_div, e3, l_i, iI_add, e4, e1, h9, kl_n, kl_i, kl_r, kl_z, kl_l, kl_d, catS_0, catS_c, cat_i, cat_l, cat_d, cat_r, cat_n, kC_r, kC_x, Option.bind_some, Option.toList_some, Option.toList_none, List.cons_append, List.nil_append, gB0, gB1, gB2, gB3, gB4, rvB, nI_iI, i0, i1, l0_, wr_s, aup_s, and_true, true_and, and_self, eq_self, if_true, if_false, Nat.zero_le, Nat.reduceAdd, Nat.reduceLeDiff, gN_I, gN_L, gN_P, bI_0, bI_ok, z0, z1, Bool.true_eq, Bool.false_eq_true, not_true_eq_false, not_false_eq_true]
      · have c2 : (tmTo P n t i : Int) - P i ≤ 0 := by omega
        have e4 : sm (tmT P V n t) i = sm (tmT P V n t) (i + 1) := by
          show _ = sm (tmT P V n t) i + tmT P V n t i
          rw [show tmT P V n t i = 0 from if_neg (fun z => q1 z.1)]
          rfl
        rw [e4]
        simp (disch := omega) only [r224_61, r224_62, r224_65, r224_67, r224_68, r224_69, r224_71, r224_73, r224_76, r224_77, r224_79, r224_80, r224_83, r224_84, r224_85, r224_88, r224_90, r224_91, r224_92, r224_93, r224_94, r224_95, r224_96, r224_97, r224_98, r224_101, md_0, md_1, gp, iI_sub, iI_le, c2, iI_add, e1, h9, kl_n, kl_i, kl_r, kl_z, kl_l, kl_d, catS_0, catS_c, cat_i, cat_l, cat_d, cat_r, cat_n, kC_r, kC_x, Option.bind_some, Option.toList_some, Option.toList_none, List.cons_append, List.nil_append, gB0, gB1, gB2, gB3, gB4, rvB, nI_iI, i0, i1, l0_, wr_s, aup_s, and_true, true_and, and_self, eq_self, if_true, if_false, Nat.zero_le, Nat.reduceAdd, Nat.reduceLeDiff, gN_I, gN_L, gN_P, bI_0, bI_ok, z0, z1, Bool.true_eq, Bool.false_eq_true, not_true_eq_false, not_false_eq_true]
    by_cases q : i + 1 < n
    · have c2 : ¬ (n : Int) ≤ ((i + 1 : Nat) : Int) := by omega
      have gn : gI (some (aI .int 385 M.2.1)) (iI ((326 + 2 * (i + 1) : Nat) : Int)) = some (iI (P (i + 1))) := by rw [gI_N (by omega) (by omega), a2 (i + 1) q]
      have e2 : min (t : Int) ((P (i + 1) : Nat) : Int) = ((tmTo P n t i : Nat) : Int) := by
        unfold tmTo
        rw [if_pos q]
        omega
      have m8 := s_min (d := d) (h := mdW h y M) (r := r) (a := (t : Int)) (b := ((P (i + 1) : Nat) : Int)) (by omega) (by omega) (by omega) (by omega)
      rw [e2] at m8
      rw [r224_4]
      simp (disch := omega) only [r224_5, r224_6, r224_9, r224_12, r224_13, r224_16, r224_19, r224_20, r224_21, r224_22, r224_23, r224_25, r224_26, r224_27, r224_28, r224_29, r224_32, r224_35, r224_36, r224_39, r224_40, r224_43, r224_45, r224_46, r224_47, r224_48, r224_51, r224_53, r224_55, r224_56, r224_58, md_0, md_1, g0, iI_le, c1, iI_mul, iI_add, f1, e1, c2, f3, gn, m8, key, kl_n, kl_i, kl_r, kl_z, kl_l, kl_d, catS_0, catS_c, cat_i, cat_l, cat_d, cat_r, cat_n, kC_r, kC_x, Option.bind_some, Option.toList_some, Option.toList_none, List.cons_append, List.nil_append, gB0, gB1, gB2, gB3, gB4, rvB, nI_iI, i0, i1, l0_, wr_s, aup_s, and_true, true_and, and_self, eq_self, if_true, if_false, Nat.zero_le, Nat.reduceAdd, Nat.reduceLeDiff, gN_I, gN_L, gN_P, bI_0, bI_ok, z0, z1, Bool.true_eq, Bool.false_eq_true, not_true_eq_false, not_false_eq_true]
    · have c2 : (n : Int) ≤ ((i + 1 : Nat) : Int) := by omega
      have e2 : min (t : Int) 2147483647 = ((tmTo P n t i : Nat) : Int) := by
        unfold tmTo
        rw [if_neg q]
        omega
      have m8 := s_min (d := d) (h := mdW h y M) (r := r) (a := (t : Int)) (b := 2147483647) (by omega) (by omega) (by omega) (by omega)
      rw [e2] at m8
      rw [r224_4]
      simp (disch := omega) only [r224_5, r224_6, r224_9, r224_12, r224_13, r224_16, r224_19, r224_20, r224_21, r224_22, r224_23, r224_25, r224_26, r224_27, r224_28, r224_29, r224_32, r224_35, r224_36, r224_39, r224_40, r224_43, r224_45, r224_46, r224_47, r224_48, r224_51, r224_53, r224_55, r224_56, r224_58, md_0, md_1, g0, iI_le, c1, iI_mul, iI_add, f1, e1, c2, m8, key, kl_n, kl_i, kl_r, kl_z, kl_l, kl_d, catS_0, catS_c, cat_i, cat_l, cat_d, cat_r, cat_n, kC_r, kC_x, Option.bind_some, Option.toList_some, Option.toList_none, List.cons_append, List.nil_append, gB0, gB1, gB2, gB3, gB4, rvB, nI_iI, i0, i1, l0_, wr_s, aup_s, and_true, true_and, and_self, eq_self, if_true, if_false, Nat.zero_le, Nat.reduceAdd, Nat.reduceLeDiff, gN_I, gN_L, gN_P, bI_0, bI_ok, z0, z1, Bool.true_eq, Bool.false_eq_true, not_true_eq_false, not_false_eq_true]
theorem r_timeNow {n t : Nat} {P V B : Nat → Nat} (hA : spA M.2.1 n P V) (hM : mkOk n P V B) (hV : ∀ i, i < n → 0 < V i) (ht : t < 131072) : aE (d + 2) 224 [.ref y, .int (iI t)] (mdW h y M, r) = some (.inl (some (.int (iI (sm (tmT P V n t) n)))), (mdW h y M, r)) := by
  have hl := tn_loop (d := d) (h := h) (r := r) (y := y) (M := M) hA hM hV ht n 0 (by omega) none none none
  rw [show ((0 : Nat) : Int) = 0 from rfl, show ((sm (tmT P V n t) 0 : Nat) : Int) = 0 from rfl] at hl
  simp only [e224, r224_0, r224_1, r224_2, r224_3, r224_5, r224_6, r224_9, r224_12, r224_13, r224_16, r224_19, r224_20, r224_21, r224_22, r224_23, r224_25, r224_26, r224_27, r224_28, r224_29, r224_32, r224_35, r224_36, r224_39, r224_40, r224_43, r224_45, r224_46, r224_47, r224_48, r224_51, r224_53, r224_55, r224_56, r224_58, r224_61, r224_62, r224_65, r224_67, r224_68, r224_69, r224_71, r224_73, r224_76, r224_77, r224_79, r224_80, r224_83, r224_84, r224_85, r224_88, r224_90, r224_91, r224_92, r224_93, r224_94, r224_95, r224_96, r224_97, r224_98, r224_101, r224_104, r224_105, hl, kl_n, kl_i, kl_r, kl_z, kl_l, kl_d, catS_0, catS_c, cat_i, cat_l, cat_d, cat_r, cat_n, kC_r, kC_x, Option.bind_some, Option.toList_some, Option.toList_none, List.cons_append, List.nil_append, gB0, gB1, gB2, gB3, gB4, rvB, nI_iI, i0, i1, l0_, wr_s, aup_s, and_true, true_and, and_self, eq_self, if_true, if_false, Nat.zero_le, Nat.reduceAdd, Nat.reduceLeDiff, gN_I, gN_L, gN_P, bI_0, bI_ok, z0, z1, Bool.true_eq, Bool.false_eq_true, not_true_eq_false, not_false_eq_true]
/-- the greatest tick whose time is not above v, looked for between a and b -/
def tkB (T : Nat → Nat) (v : Nat) : Nat → Nat → Nat → Nat
  | 0, a, _ => a
  | k + 1, a, b => if a < b then (if T ((a + b + 1) / 2) ≤ v then tkB T v k ((a + b + 1) / 2) b else tkB T v k a ((a + b + 1) / 2 - 1)) else a
theorem tb_loop {n v : Nat} {P V B : Nat → Nat} (hA : spA M.2.1 n P V) (hM : mkOk n P V B) (hV : ∀ i, i < n → 0 < V i) (hv : v < 2147483648) (hT : ∀ t, t < 131072 → sm (tmT P V n t) n < 2147483648) :
    ∀ k a b : Nat, b ≤ 99999 → a ≤ b → b - a < 2 ^ k → ∀ l4 : Option Value, L (d + 2) 226 5 [some (.ref y), some (.int (iI v)), some (.int (iI a)), some (.int (iI b)), l4] [] (mdW h y M, r) = some (.inl (some (.int (iI (tkB (fun t => sm (tmT P V n t) n) v k a b)))), (mdW h y M, r)) := by
  intro k
  induction k with
  | zero =>
    intro a b hb hab hk l4
    have e0 : (2 : Nat) ^ 0 = 1 := rfl
    have c1 : (b : Int) ≤ a := by omega
    rw [r226_5]
    simp (disch := omega) only [r226_0, r226_1, r226_2, r226_4, r226_6, r226_7, r226_10, r226_11, r226_12, r226_13, r226_14, r226_15, r226_16, r226_17, r226_19, r226_20, r226_22, r226_25, r226_26, r226_29, r226_31, r226_32, r226_35, r226_37, r226_38, r226_39, r226_40, r226_43, r226_44, iI_le, c1, kl_n, kl_i, kl_r, kl_z, kl_l, kl_d, catS_0, catS_c, cat_i, cat_l, cat_d, cat_r, cat_n, kC_r, kC_x, Option.bind_some, Option.toList_some, Option.toList_none, List.cons_append, List.nil_append, gB0, gB1, gB2, gB3, gB4, rvB, nI_iI, i0, i1, l0_, wr_s, aup_s, and_true, true_and, and_self, eq_self, if_true, if_false, Nat.zero_le, Nat.reduceAdd, Nat.reduceLeDiff, gN_I, gN_L, gN_P, bI_0, bI_ok, z0, z1, Bool.true_eq, Bool.false_eq_true, not_true_eq_false, not_false_eq_true]
    rfl
  | succ k ih =>
    intro a b hb hab hk l4
    have e0 : (2 : Nat) ^ (k + 1) = 2 ^ k * 2 := Nat.pow_succ 2 k
    have f1 : ¬ iI 2 = iI 0 := by decide
    rw [r226_5]
    by_cases q : a < b
    · have c1 : ¬ (b : Int) ≤ a := by omega
      have e1 : ((a : Int) + b + 1) / 2 = (((a + b + 1) / 2 : Nat) : Int) := by omega
      have tn := r_timeNow (d := d) (h := h) (r := r) (y := y) (M := M) (t := (a + b + 1) / 2) hA hM hV (by omega)
      have tb := hT ((a + b + 1) / 2) (by omega)
      by_cases q2 : sm (tmT P V n ((a + b + 1) / 2)) n ≤ v
      · have c2 : ¬ (v : Int) < (sm (tmT P V n ((a + b + 1) / 2)) n : Int) := by omega
        have h9 := fun l4 => ih ((a + b + 1) / 2) b hb (by omega) (by omega) l4
        have e3 : tkB (fun t => sm (tmT P V n t) n) v (k + 1) a b = tkB (fun t => sm (tmT P V n t) n) v k ((a + b + 1) / 2) b := by
          show (if a < b then _ else _) = _
          rw [if_pos q, if_pos q2]
        rw [e3]
        simp (disch := omega) only [r226_0, r226_1, r226_2, r226_4, r226_6, r226_7, r226_10, r226_11, r226_12, r226_13, r226_14, r226_15, r226_16, r226_17, r226_19, r226_20, r226_22, r226_25, r226_26, r226_29, r226_31, r226_32, r226_35, r226_37, r226_38, r226_39, r226_40, r226_43, r226_44, iI_le, iI_lt, c1, iI_add, f1, iI_div, e1, md_0, tn, c2, h9, kl_n, kl_i, kl_r, kl_z, kl_l, kl_d, catS_0, catS_c, cat_i, cat_l, cat_d, cat_r, cat_n, kC_r, kC_x, Option.bind_some, Option.toList_some, Option.toList_none, List.cons_append, List.nil_append, gB0, gB1, gB2, gB3, gB4, rvB, nI_iI, i0, i1, l0_, wr_s, aup_s, and_true, true_and, and_self, eq_self, if_true, if_false, Nat.zero_le, Nat.reduceAdd, Nat.reduceLeDiff, gN_I, gN_L, gN_P, bI_0, bI_ok, z0, z1, Bool.true_eq, Bool.false_eq_true, not_true_eq_false, not_false_eq_true]
      · have c2 : (v : Int) < (sm (tmT P V n ((a + b + 1) / 2)) n : Int) := by omega
        have h9 := fun l4 => ih a ((a + b + 1) / 2 - 1) (by omega) (by omega) (by omega) l4
        have e3 : tkB (fun t => sm (tmT P V n t) n) v (k + 1) a b = tkB (fun t => sm (tmT P V n t) n) v k a ((a + b + 1) / 2 - 1) := by
          show (if a < b then _ else _) = _
          rw [if_pos q, if_neg q2]
        have e4 : (((a + b + 1) / 2 : Nat) : Int) - 1 = (((a + b + 1) / 2 - 1 : Nat) : Int) := by omega
        rw [e3]
        simp (disch := omega) only [r226_0, r226_1, r226_2, r226_4, r226_6, r226_7, r226_10, r226_11, r226_12, r226_13, r226_14, r226_15, r226_16, r226_17, r226_19, r226_20, r226_22, r226_25, r226_26, r226_29, r226_31, r226_32, r226_35, r226_37, r226_38, r226_39, r226_40, r226_43, r226_44, iI_le, iI_lt, c1, iI_add, f1, iI_div, e1, md_0, tn, c2, iI_sub, e4, h9, kl_n, kl_i, kl_r, kl_z, kl_l, kl_d, catS_0, catS_c, cat_i, cat_l, cat_d, cat_r, cat_n, kC_r, kC_x, Option.bind_some, Option.toList_some, Option.toList_none, List.cons_append, List.nil_append, gB0, gB1, gB2, gB3, gB4, rvB, nI_iI, i0, i1, l0_, wr_s, aup_s, and_true, true_and, and_self, eq_self, if_true, if_false, Nat.zero_le, Nat.reduceAdd, Nat.reduceLeDiff, gN_I, gN_L, gN_P, bI_0, bI_ok, z0, z1, Bool.true_eq, Bool.false_eq_true, not_true_eq_false, not_false_eq_true]
    · have c1 : (b : Int) ≤ a := by omega
      have e3 : tkB (fun t => sm (tmT P V n t) n) v (k + 1) a b = a := if_neg q
      rw [e3]
      simp (disch := omega) only [r226_0, r226_1, r226_2, r226_4, r226_6, r226_7, r226_10, r226_11, r226_12, r226_13, r226_14, r226_15, r226_16, r226_17, r226_19, r226_20, r226_22, r226_25, r226_26, r226_29, r226_31, r226_32, r226_35, r226_37, r226_38, r226_39, r226_40, r226_43, r226_44, iI_le, c1, kl_n, kl_i, kl_r, kl_z, kl_l, kl_d, catS_0, catS_c, cat_i, cat_l, cat_d, cat_r, cat_n, kC_r, kC_x, Option.bind_some, Option.toList_some, Option.toList_none, List.cons_append, List.nil_append, gB0, gB1, gB2, gB3, gB4, rvB, nI_iI, i0, i1, l0_, wr_s, aup_s, and_true, true_and, and_self, eq_self, if_true, if_false, Nat.zero_le, Nat.reduceAdd, Nat.reduceLeDiff, gN_I, gN_L, gN_P, bI_0, bI_ok, z0, z1, Bool.true_eq, Bool.false_eq_true, not_true_eq_false, not_false_eq_true]
theorem r_tickNow {n v : Nat} {P V B : Nat → Nat} (hA : spA M.2.1 n P V) (hM : mkOk n P V B) (hV : ∀ i, i < n → 0 < V i) (hv : v < 2147483648) (hT : ∀ t, t < 131072 → sm (tmT P V n t) n < 2147483648) :
    aE (d + 3) 226 [.ref y, .int (iI v)] (mdW h y M, r) = some (.inl (some (.int (iI (tkB (fun t => sm (tmT P V n t) n) v 17 0 99999)))), (mdW h y M, r)) := by
  have hl := tb_loop (d := d) (h := h) (r := r) (y := y) (M := M) hA hM hV hv hT 17 0 99999 (by omega) (by omega) (by decide) none
  rw [show ((0 : Nat) : Int) = 0 from rfl, show ((99999 : Nat) : Int) = 99999 from rfl] at hl
  simp only [e226, r226_0, r226_1, r226_2, r226_4, r226_6, r226_7, r226_10, r226_11, r226_12, r226_13, r226_14, r226_15, r226_16, r226_17, r226_19, r226_20, r226_22, r226_25, r226_26, r226_29, r226_31, r226_32, r226_35, r226_37, r226_38, r226_39, r226_40, r226_43, r226_44, hl, kl_n, kl_i, kl_r, kl_z, kl_l, kl_d, catS_0, catS_c, cat_i, cat_l, cat_d, cat_r, cat_n, kC_r, kC_x, Option.bind_some, Option.toList_some, Option.toList_none, List.cons_append, List.nil_append, gB0, gB1, gB2, gB3, gB4, rvB, nI_iI, i0, i1, l0_, wr_s, aup_s, and_true, true_and, and_self, eq_self, if_true, if_false, Nat.zero_le, Nat.reduceAdd, Nat.reduceLeDiff, gN_I, gN_L, gN_P, bI_0, bI_ok, z0, z1, Bool.true_eq, Bool.false_eq_true, not_true_eq_false, not_false_eq_true]
end
