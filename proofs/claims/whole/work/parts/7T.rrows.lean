/-! ===== the reference sets what begins where ===== -/
/-- a row taken out of a list at L, rows of s numbers; put in; put in the place of another -/
def delR (L s k m : Nat) (A : Nat → Int32) : Nat → Int32 := upd (flF (va_cpy A A (L + 1 + s * k + s) (L + 1 + s * k) (s * (m - k - 1))) (L + 1 + s * (m - 1)) (L + 1 + s * m) (iI 0)) L (iI (m - 1 : Nat))
def insR (L s k m : Nat) (R A : Nat → Int32) : Nat → Int32 := va_cpy R (upd (va_cpy A A (L + 1 + s * k) (L + 1 + s * k + s) (s * (m - k))) L (iI (m + 1 : Nat))) 0 (L + 1 + s * k) s
def setR (L s k : Nat) (R A : Nat → Int32) : Nat → Int32 := va_cpy R A 0 (L + 1 + s * k) s
section
variable {d n w : Nat} {g : Nat × Nat} {h : aHf} {y : Nat} {M : Md}
theorem sr2_11 {m q k v : Nat} {Q : Nat → Nat} {f : Nat → Int32} {l6 l7 : Option Value} (hA0 : M.2.1 325 = iI m) (hAP : ∀ i, i < m → M.2.1 (325 + 1 + 2 * i) = iI (Q i)) (hm : m ≤ 11) (hQ : ∀ i, Q i < 2147483648) (hv : v < 2147483648) (hq : y + 531 ≤ q) (hr : h q = some (aI .int 2 f)) (hf : f 0 = iI v) (hk : k ≤ m) (h1 : ∀ i, i < k → Q i < v) (h2 : k = m ∨ v ≤ Q k) : ∀ z i : Nat, i + z = k →
    L (d + 2) 220 11 [some (.ref y), some (.int (iI 325)), some (.int (iI 2)), some (.ref q), some (.int (iI m)), some (.int (iI i)), l6, l7] [] (mdW h y M, n, w, g) = L (d + 2) 220 43 [some (.ref y), some (.int (iI 325)), some (.int (iI 2)), some (.ref q), some (.int (iI m)), some (.int (iI k)), l6, l7] [] (mdW h y M, n, w, g) := by
  have rf : gI (mdW h y M q) (iI 0) = some (iI v) := by rw [md_out hq, hr, gI_0 (by omega), hf]
  have en : ∀ i, i < m → gI (mdW h y M (y + 1)) (iI ((325 + 1 + 2 * i : Nat) : Int)) = some (iI (Q i)) := fun i hi => by
    rw [md_1, gI_I (by omega) (by omega) (by omega), Int.toNat_natCast, hAP i hi]
  have e0 : (325 : Int) + 1 = ((325 + 1 : Nat) : Int) := by omega
  intro z
  induction z with
  | zero =>
    intro i hi
    obtain rfl : i = k := by omega
    have bq := hQ i
    rw [r220_11]
    by_cases c : i = m
    · have c1 : (m : Int) ≤ i := by omega
      simp (disch := omega) only [r220_13, r220_15, r220_18, r220_19, r220_22, r220_23, r220_24, r220_25, r220_26, r220_28, r220_29, r220_30, r220_31, r220_32, r220_33, r220_34, r220_37, r220_40, iI_le, c1, kl_n, kl_i, kl_r, kl_z, kl_l, kl_d, catS_0, catS_c, cat_i, cat_l, cat_d, cat_r, cat_n, kC_r, kC_x, Option.bind_some, Option.toList_some, Option.toList_none, List.cons_append, List.nil_append, gB0, gB1, gB2, gB3, gB4, rvB, nI_iI, i0, i1, l0_, wr_s, aup_s, and_true, true_and, and_self, eq_self, if_true, if_false, Nat.zero_le, Nat.reduceAdd, Nat.reduceLeDiff, gN_I, gN_L, gN_P, bI_0, bI_ok, z0, z1, Bool.true_eq, Bool.false_eq_true, not_true_eq_false, not_false_eq_true]
    · have c1 : ¬ (m : Int) ≤ i := by omega
      have c2 : (v : Int) ≤ (Q i : Int) := by
        have := h2.resolve_left c
        omega
      have e1 : (325 : Int) + 1 + 2 * (i : Int) = ((325 + 1 + 2 * i : Nat) : Int) := by omega
      simp (disch := omega) only [r220_13, r220_15, r220_18, r220_19, r220_22, r220_23, r220_24, r220_25, r220_26, r220_28, r220_29, r220_30, r220_31, r220_32, r220_33, r220_34, r220_37, r220_40, iI_le, c1, md_0, gB1, iI_add, iI_mul, e1, en i (by omega), rf, c2, kl_n, kl_i, kl_r, kl_z, kl_l, kl_d, catS_0, catS_c, cat_i, cat_l, cat_d, cat_r, cat_n, kC_r, kC_x, Option.bind_some, Option.toList_some, Option.toList_none, List.cons_append, List.nil_append, gB0, gB1, gB2, gB3, gB4, rvB, nI_iI, i0, i1, l0_, wr_s, aup_s, and_true, true_and, and_self, eq_self, if_true, if_false, Nat.zero_le, Nat.reduceAdd, Nat.reduceLeDiff, gN_I, gN_L, gN_P, bI_0, bI_ok, z0, z1, Bool.true_eq, Bool.false_eq_true, not_true_eq_false, not_false_eq_true]
  | succ z ih =>
    intro i hi
    have bq := hQ i
    have := h1 i (by omega)
    have c1 : ¬ (m : Int) ≤ i := by omega
    have c2 : ¬ (v : Int) ≤ (Q i : Int) := by omega
    have e1 : (325 : Int) + 1 + 2 * (i : Int) = ((325 + 1 + 2 * i : Nat) : Int) := by omega
    have e2 : (i : Int) + 1 = ((i + 1 : Nat) : Int) := by omega
    rw [r220_11]
    simp (disch := omega) only [r220_13, r220_15, r220_18, r220_19, r220_22, r220_23, r220_24, r220_25, r220_26, r220_28, r220_29, r220_30, r220_31, r220_32, r220_33, r220_34, r220_37, r220_40, iI_le, c1, md_0, gB1, iI_add, iI_mul, e1, en i (by omega), rf, c2, e2, ih (i + 1) (by omega), kl_n, kl_i, kl_r, kl_z, kl_l, kl_d, catS_0, catS_c, cat_i, cat_l, cat_d, cat_r, cat_n, kC_r, kC_x, Option.bind_some, Option.toList_some, Option.toList_none, List.cons_append, List.nil_append, gB0, gB1, gB2, gB3, gB4, rvB, nI_iI, i0, i1, l0_, wr_s, aup_s, and_true, true_and, and_self, eq_self, if_true, if_false, Nat.zero_le, Nat.reduceAdd, Nat.reduceLeDiff, gN_I, gN_L, gN_P, bI_0, bI_ok, z0, z1, Bool.true_eq, Bool.false_eq_true, not_true_eq_false, not_false_eq_true]
theorem sr2_80 {m q k v : Nat} {Q : Nat → Nat} {f : Nat → Int32} (hA0 : M.2.1 325 = iI m) (hAP : ∀ i, i < m → M.2.1 (325 + 1 + 2 * i) = iI (Q i)) (hm : m ≤ 11) (hQ : ∀ i, Q i < 2147483648) (hv : v < 2147483648) (hq : y + 531 ≤ q) (hr : h q = some (aI .int 2 f)) (hf : f 0 = iI v) (hk : k ≤ m) (h1 : ∀ i, i < k → Q i < v) (h2 : k = m ∨ v ≤ Q k) (hy : y + 531 ≤ n) :
    L (d + 2) 220 0 [some (.ref y), some (.int (iI 325)), some (.int (iI 2)), some (.ref q), none, none, none, none] [] (mdW h y M, n, w, g) = L (d + 2) 220 80 [some (.ref y), some (.int (iI 325)), some (.int (iI 2)), some (.ref q), some (.int (iI m)), some (.int (iI k)), some (.int (iI (325 + 1 + 2 * k : Nat))), some (.int (bI (k < m ∧ Q k = v)))] [] (mdW h y M, n, w, g) := by
  have k11 := sr2_11 (d := d) (n := n) (w := w) (g := g) (h := h) (y := y) (M := M) (l6 := none) (l7 := none) hA0 hAP hm hQ hv hq hr hf hk h1 h2 k 0 (by omega)
  rw [show ((0 : Nat) : Int) = 0 from rfl] at k11
  have rf : gI (mdW h y M q) (iI 0) = some (iI v) := by rw [md_out hq, hr, gI_0 (by omega), hf]
  have en : ∀ i, i < m → gI (mdW h y M (y + 1)) (iI ((325 + 1 + 2 * i : Nat) : Int)) = some (iI (Q i)) := fun i hi => by
    rw [md_1, gI_I (by omega) (by omega) (by omega), Int.toNat_natCast, hAP i hi]
  have gL : gI (mdW h y M (y + 1)) (iI 325) = some (iI m) := by
    have z := gI_I (N := 385) (f := M.2.1) (j := 325) (by omega) (by omega) (by omega)
    rw [md_1, z]
    exact congrArg some hA0
  have e1 : (325 : Int) + 1 + 2 * (k : Int) = ((325 + 1 + 2 * k : Nat) : Int) := by omega
  have bq := hQ k
  simp (disch := omega) only [r220_0, r220_1, r220_4, r220_5, r220_6, r220_8, r220_9, md_0, gB1, gL, k11, kl_n, kl_i, kl_r, kl_z, kl_l, kl_d, catS_0, catS_c, cat_i, cat_l, cat_d, cat_r, cat_n, kC_r, kC_x, Option.bind_some, Option.toList_some, Option.toList_none, List.cons_append, List.nil_append, gB0, gB1, gB2, gB3, gB4, rvB, nI_iI, i0, i1, l0_, wr_s, aup_s, and_true, true_and, and_self, eq_self, if_true, if_false, Nat.zero_le, Nat.reduceAdd, Nat.reduceLeDiff, gN_I, gN_L, gN_P, bI_0, bI_ok, z0, z1, Bool.true_eq, Bool.false_eq_true, not_true_eq_false, not_false_eq_true]
  by_cases c : k = m
  · have c1 : (m : Int) ≤ k := by omega
    rw [show bI (k < m ∧ Q k = v) = iI 0 from if_neg (fun z => by omega)]
    simp (disch := omega) only [r220_43, r220_44, r220_45, r220_46, r220_47, r220_49, r220_50, r220_51, r220_53, r220_55, r220_57, r220_60, r220_61, r220_64, r220_66, r220_67, r220_68, r220_69, r220_70, r220_73, r220_74, r220_77, r220_78, iI_add, iI_mul, e1, iI_le, c1, kl_n, kl_i, kl_r, kl_z, kl_l, kl_d, catS_0, catS_c, cat_i, cat_l, cat_d, cat_r, cat_n, kC_r, kC_x, Option.bind_some, Option.toList_some, Option.toList_none, List.cons_append, List.nil_append, gB0, gB1, gB2, gB3, gB4, rvB, nI_iI, i0, i1, l0_, wr_s, aup_s, and_true, true_and, and_self, eq_self, if_true, if_false, Nat.zero_le, Nat.reduceAdd, Nat.reduceLeDiff, gN_I, gN_L, gN_P, bI_0, bI_ok, z0, z1, Bool.true_eq, Bool.false_eq_true, not_true_eq_false, not_false_eq_true]
  · have c1 : ¬ (m : Int) ≤ k := by omega
    by_cases c2 : Q k = v
    · have c3 : (Q k : Int) = v := by omega
      rw [show bI (k < m ∧ Q k = v) = iI 1 from if_pos ⟨by omega, c2⟩]
      simp (disch := omega) only [r220_43, r220_44, r220_45, r220_46, r220_47, r220_49, r220_50, r220_51, r220_53, r220_55, r220_57, r220_60, r220_61, r220_64, r220_66, r220_67, r220_68, r220_69, r220_70, r220_73, r220_74, r220_77, r220_78, iI_add, iI_mul, e1, iI_le, c1, md_0, gB1, en k (by omega), rf, iI_eq, c3, kl_n, kl_i, kl_r, kl_z, kl_l, kl_d, catS_0, catS_c, cat_i, cat_l, cat_d, cat_r, cat_n, kC_r, kC_x, Option.bind_some, Option.toList_some, Option.toList_none, List.cons_append, List.nil_append, gB0, gB1, gB2, gB3, gB4, rvB, nI_iI, i0, i1, l0_, wr_s, aup_s, and_true, true_and, and_self, eq_self, if_true, if_false, Nat.zero_le, Nat.reduceAdd, Nat.reduceLeDiff, gN_I, gN_L, gN_P, bI_0, bI_ok, z0, z1, Bool.true_eq, Bool.false_eq_true, not_true_eq_false, not_false_eq_true]
    · have c3 : ¬ (Q k : Int) = v := by omega
      rw [show bI (k < m ∧ Q k = v) = iI 0 from if_neg (fun z => c2 z.2)]
      simp (disch := omega) only [r220_43, r220_44, r220_45, r220_46, r220_47, r220_49, r220_50, r220_51, r220_53, r220_55, r220_57, r220_60, r220_61, r220_64, r220_66, r220_67, r220_68, r220_69, r220_70, r220_73, r220_74, r220_77, r220_78, iI_add, iI_mul, e1, iI_le, c1, md_0, gB1, en k (by omega), rf, iI_eq, c3, kl_n, kl_i, kl_r, kl_z, kl_l, kl_d, catS_0, catS_c, cat_i, cat_l, cat_d, cat_r, cat_n, kC_r, kC_x, Option.bind_some, Option.toList_some, Option.toList_none, List.cons_append, List.nil_append, gB0, gB1, gB2, gB3, gB4, rvB, nI_iI, i0, i1, l0_, wr_s, aup_s, and_true, true_and, and_self, eq_self, if_true, if_false, Nat.zero_le, Nat.reduceAdd, Nat.reduceLeDiff, gN_I, gN_L, gN_P, bI_0, bI_ok, z0, z1, Bool.true_eq, Bool.false_eq_true, not_true_eq_false, not_false_eq_true]
theorem r_row2_no {m q k v z : Nat} {Q : Nat → Nat} {f : Nat → Int32} (hA0 : M.2.1 325 = iI m) (hAP : ∀ i, i < m → M.2.1 (325 + 1 + 2 * i) = iI (Q i)) (hm : m ≤ 11) (hQ : ∀ i, Q i < 2147483648) (hv : v < 2147483648) (hq : y + 531 ≤ q) (hr : h q = some (aI .int 2 f)) (hf : f 0 = iI v) (hk : k ≤ m) (h1 : ∀ i, i < k → Q i < v) (h2 : k = m ∨ v ≤ Q k) (hy : y + 531 ≤ n) (hz : f 1 = iI z) (bz : z < 2147483648) (hc : if z = 0 then v = 0 ∨ ¬ (k < m ∧ Q k = v) else m = 11 ∧ ¬ (k < m ∧ Q k = v)) :
    aE (d + 3) 220 [.ref y, .int (iI 325), .int (iI 2), .ref q] (mdW h y M, n, w, g) = some (.inl (some (.int (iI 0))), (mdW h y M, n, w, g)) := by
  have k80 := sr2_80 (d := d) (n := n) (w := w) (g := g) (h := h) (y := y) (M := M) hA0 hAP hm hQ hv hq hr hf hk h1 h2 hy
  have rf : gI (mdW h y M q) (iI 0) = some (iI v) := by rw [md_out hq, hr, gI_0 (by omega), hf]
  have rz : gI (mdW h y M q) (iI 1) = some (iI z) := by
    have x := gI_I (N := 2) (f := f) (j := 1) (by omega) (by omega) (by omega)
    rw [md_out hq, hr, x]
    exact congrArg some hz
  rw [e220, k80]
  by_cases c : z = 0
  · rw [if_pos c] at hc
    have c1 : (z : Int) = 0 := by omega
    by_cases c2 : v = 0
    · have c3 : (v : Int) = 0 := by omega
      simp (disch := omega) only [r220_80, r220_81, r220_82, r220_83, r220_86, r220_87, r220_88, r220_89, r220_92, r220_94, r220_97, r220_98, rz, iI_eq, c1, rf, c3, kl_n, kl_i, kl_r, kl_z, kl_l, kl_d, catS_0, catS_c, cat_i, cat_l, cat_d, cat_r, cat_n, kC_r, kC_x, Option.bind_some, Option.toList_some, Option.toList_none, List.cons_append, List.nil_append, gB0, gB1, gB2, gB3, gB4, rvB, nI_iI, i0, i1, l0_, wr_s, aup_s, and_true, true_and, and_self, eq_self, if_true, if_false, Nat.zero_le, Nat.reduceAdd, Nat.reduceLeDiff, gN_I, gN_L, gN_P, bI_0, bI_ok, z0, z1, Bool.true_eq, Bool.false_eq_true, not_true_eq_false, not_false_eq_true]
    · have c3 : ¬ (v : Int) = 0 := by omega
      have c4 := eq_false (hc.resolve_left c2)
      simp (disch := omega) only [r220_80, r220_81, r220_82, r220_83, r220_86, r220_87, r220_88, r220_89, r220_92, r220_94, r220_97, r220_98, rz, iI_eq, c1, rf, c3, c4, kl_n, kl_i, kl_r, kl_z, kl_l, kl_d, catS_0, catS_c, cat_i, cat_l, cat_d, cat_r, cat_n, kC_r, kC_x, Option.bind_some, Option.toList_some, Option.toList_none, List.cons_append, List.nil_append, gB0, gB1, gB2, gB3, gB4, rvB, nI_iI, i0, i1, l0_, wr_s, aup_s, and_true, true_and, and_self, eq_self, if_true, if_false, Nat.zero_le, Nat.reduceAdd, Nat.reduceLeDiff, gN_I, gN_L, gN_P, bI_0, bI_ok, z0, z1, Bool.true_eq, Bool.false_eq_true, not_true_eq_false, not_false_eq_true]
  · rw [if_neg c] at hc
    have c1 : ¬ (z : Int) = 0 := by omega
    have c4 := eq_false hc.2
    have c5 : (m : Int) = 11 := by omega
    simp (disch := omega) only [r220_80, r220_81, r220_82, r220_83, r220_163, r220_165, r220_168, r220_170, r220_172, r220_175, r220_176, rz, iI_eq, c1, c4, c5, kl_n, kl_i, kl_r, kl_z, kl_l, kl_d, catS_0, catS_c, cat_i, cat_l, cat_d, cat_r, cat_n, kC_r, kC_x, Option.bind_some, Option.toList_some, Option.toList_none, List.cons_append, List.nil_append, gB0, gB1, gB2, gB3, gB4, rvB, nI_iI, i0, i1, l0_, wr_s, aup_s, and_true, true_and, and_self, eq_self, if_true, if_false, Nat.zero_le, Nat.reduceAdd, Nat.reduceLeDiff, gN_I, gN_L, gN_P, bI_0, bI_ok, z0, z1, Bool.true_eq, Bool.false_eq_true, not_true_eq_false, not_false_eq_true]
theorem r_row2_del {m q k v : Nat} {Q : Nat → Nat} {f : Nat → Int32} (hA0 : M.2.1 325 = iI m) (hAP : ∀ i, i < m → M.2.1 (325 + 1 + 2 * i) = iI (Q i)) (hm : m ≤ 11) (hQ : ∀ i, Q i < 2147483648) (hv : v < 2147483648) (hq : y + 531 ≤ q) (hr : h q = some (aI .int 2 f)) (hf : f 0 = iI v) (hk : k ≤ m) (h1 : ∀ i, i < k → Q i < v) (h2 : k = m ∨ v ≤ Q k) (hy : y + 531 ≤ n) (hz : f 1 = iI 0) (hc : 0 < v ∧ k < m ∧ Q k = v) :
    aE (d + 3) 220 [.ref y, .int (iI 325), .int (iI 2), .ref q] (mdW h y M, n, w, g) = some (.inl (some (.int (iI 1))), (mdW h y (alM M (delR 325 2 k m M.2.1)), n, w, g)) := by
  have k80 := sr2_80 (d := d) (n := n) (w := w) (g := g) (h := h) (y := y) (M := M) hA0 hAP hm hQ hv hq hr hf hk h1 h2 hy
  have rf : gI (mdW h y M q) (iI 0) = some (iI v) := by rw [md_out hq, hr, gI_0 (by omega), hf]
  have rz : gI (mdW h y M q) (iI 1) = some (iI 0) := by
    have x := gI_I (N := 2) (f := f) (j := 1) (by omega) (by omega) (by omega)
    rw [md_out hq, hr, x]
    exact congrArg some hz
  have c3 : ¬ (v : Int) = 0 := by omega
  have c4 := eq_true hc.2
  have ma : ∀ A A', aup (mdW h y (alM M A)) (y + 1) (aI .int 385 A') = mdW h y (alM M A') := fun A A' => md_a
  obtain ⟨A1, hA1⟩ : ∃ A1, A1 = va_cpy M.2.1 M.2.1 (325 + 1 + 2 * k + 2) (325 + 1 + 2 * k) (2 * (m - k - 1)) := ⟨_, rfl⟩
  obtain ⟨A2, hA2⟩ : ∃ A2, A2 = flF A1 (325 + 1 + 2 * (m - 1)) (325 + 1 + 2 * m) (iI 0) := ⟨_, rfl⟩
  have cc := s_acopy (h := mdW h y M) (n := n) (r := (w, g)) (s := y + 1) (t := y + 1) (sp := 325 + 1 + 2 * k + 2) (dp := 325 + 1 + 2 * k) (m := 2 * (m - k - 1)) md_1 md_1 (by omega) (by omega) (by omega) (by omega)
  rw [md_a, ← hA1] at cc
  have cc2 : aPrim 1001 [.ref (y + 1), .int (iI (325 + 1 + 2 * k + 2 : Nat)), .ref (y + 1), .int (iI (325 + 1 + 2 * k : Nat)), .int (iI (2 * (m - k - 1) : Nat))] (mdW h y M, n, w, g) = some (.inl none, (mdW h y (alM M A1), n, w, g)) := cc
  have fl := s_fill (d := d) (h := mdW h y (alM M A1)) (r := (n, w, g)) (p := y + 1) (f := A1) (a := 325 + 1 + 2 * (m - 1)) (b := 325 + 1 + 2 * m) (v := iI 0) md_1 (by omega)
  rw [ma, ← hA2] at fl
  have f1 : ((325 + 1 + 2 * k : Nat) : Int) + 2 = ((325 + 1 + 2 * k + 2 : Nat) : Int) := by omega
  have f2 : 2 * ((m : Int) - (k : Int) - 1) = ((2 * (m - k - 1) : Nat) : Int) := by omega
  have f3 : (325 : Int) + 1 + 2 * ((m : Int) - 1) = ((325 + 1 + 2 * (m - 1) : Nat) : Int) := by omega
  have f4 : (325 : Int) + 1 + 2 * (m : Int) = ((325 + 1 + 2 * m : Nat) : Int) := by omega
  have f5 : (m : Int) - 1 = ((m - 1 : Nat) : Int) := by omega
  have m0 := fun A => md_0 (h := h) (y := y) (M := alM M A)
  have m1 : ∀ A, mdW h y (alM M A) (y + 1) = some (aI .int 385 A) := fun A => md_1
  have gL : gI (some (aI .int 385 A2)) (iI 325) = some (iI m) := by
    have z := gI_I (N := 385) (f := A2) (j := 325) (by omega) (by omega) (by omega)
    rw [z]
    refine congrArg some ?_
    show A2 325 = _
    rw [hA2, hA1]
    unfold flF va_cpy
    rw [if_neg (by omega), if_neg (by omega), hA0]
  have sL : sI (some (aI .int 385 A2)) (iI 325) (iI (m - 1 : Nat)) = some (aI .int 385 (delR 325 2 k m M.2.1)) := by
    have z := sI_I (N := 385) (f := A2) (j := 325) (x := iI (m - 1 : Nat)) (by omega) (by omega) (by omega)
    rw [z, hA2, hA1]
    rfl
  rw [e220, k80]
  simp (disch := omega) only [r220_80, r220_81, r220_82, r220_83, r220_86, r220_87, r220_88, r220_89, r220_92, r220_94, r220_97, r220_98, rz, iI_eq, rf, c3, c4, kl_n, kl_i, kl_r, kl_z, kl_l, kl_d, catS_0, catS_c, cat_i, cat_l, cat_d, cat_r, cat_n, kC_r, kC_x, Option.bind_some, Option.toList_some, Option.toList_none, List.cons_append, List.nil_append, gB0, gB1, gB2, gB3, gB4, rvB, nI_iI, i0, i1, l0_, wr_s, aup_s, and_true, true_and, and_self, eq_self, if_true, if_false, Nat.zero_le, Nat.reduceAdd, Nat.reduceLeDiff, gN_I, gN_L, gN_P, bI_0, bI_ok, z0, z1, Bool.true_eq, Bool.false_eq_true, not_true_eq_false, not_false_eq_true]
  simp (disch := omega) only [r220_99, r220_100, r220_103, r220_105, r220_106, r220_107, r220_108, r220_111, r220_113, r220_114, r220_116, r220_118, r220_119, r220_120, r220_121, r220_122, md_0, gB1, iI_add, iI_sub, iI_mul, f1, f2, cc2, kl_n, kl_i, kl_r, kl_z, kl_l, kl_d, catS_0, catS_c, cat_i, cat_l, cat_d, cat_r, cat_n, kC_r, kC_x, Option.bind_some, Option.toList_some, Option.toList_none, List.cons_append, List.nil_append, gB0, gB1, gB2, gB3, gB4, rvB, nI_iI, i0, i1, l0_, wr_s, aup_s, and_true, true_and, and_self, eq_self, if_true, if_false, Nat.zero_le, Nat.reduceAdd, Nat.reduceLeDiff, gN_I, gN_L, gN_P, bI_0, bI_ok, z0, z1, Bool.true_eq, Bool.false_eq_true, not_true_eq_false, not_false_eq_true]
  simp (disch := omega) only [r220_125, r220_126, r220_129, r220_130, r220_131, r220_132, r220_133, r220_135, r220_136, r220_137, r220_138, r220_139, r220_140, r220_141, r220_142, r220_143, r220_145, r220_146, r220_147, r220_148, m0, gB1, iI_sub, iI_mul, iI_add, f3, f4, fl, kl_n, kl_i, kl_r, kl_z, kl_l, kl_d, catS_0, catS_c, cat_i, cat_l, cat_d, cat_r, cat_n, kC_r, kC_x, Option.bind_some, Option.toList_some, Option.toList_none, List.cons_append, List.nil_append, gB0, gB1, gB2, gB3, gB4, rvB, nI_iI, i0, i1, l0_, wr_s, aup_s, and_true, true_and, and_self, eq_self, if_true, if_false, Nat.zero_le, Nat.reduceAdd, Nat.reduceLeDiff, gN_I, gN_L, gN_P, bI_0, bI_ok, z0, z1, Bool.true_eq, Bool.false_eq_true, not_true_eq_false, not_false_eq_true]
  simp (disch := omega) only [r220_151, r220_152, r220_155, r220_156, r220_157, r220_158, r220_159, r220_160, r220_161, r220_162, m0, gB1, m1, gL, iI_sub, f5, sL, ma, kl_n, kl_i, kl_r, kl_z, kl_l, kl_d, catS_0, catS_c, cat_i, cat_l, cat_d, cat_r, cat_n, kC_r, kC_x, Option.bind_some, Option.toList_some, Option.toList_none, List.cons_append, List.nil_append, gB0, gB1, gB2, gB3, gB4, rvB, nI_iI, i0, i1, l0_, wr_s, aup_s, and_true, true_and, and_self, eq_self, if_true, if_false, Nat.zero_le, Nat.reduceAdd, Nat.reduceLeDiff, gN_I, gN_L, gN_P, bI_0, bI_ok, z0, z1, Bool.true_eq, Bool.false_eq_true, not_true_eq_false, not_false_eq_true]
theorem r_row2_ins {m q k v z : Nat} {Q : Nat → Nat} {f : Nat → Int32} (hA0 : M.2.1 325 = iI m) (hAP : ∀ i, i < m → M.2.1 (325 + 1 + 2 * i) = iI (Q i)) (hm : m ≤ 11) (hQ : ∀ i, Q i < 2147483648) (hv : v < 2147483648) (hq : y + 531 ≤ q) (hr : h q = some (aI .int 2 f)) (hf : f 0 = iI v) (hk : k ≤ m) (h1 : ∀ i, i < k → Q i < v) (h2 : k = m ∨ v ≤ Q k) (hy : y + 531 ≤ n) (hz : f 1 = iI z) (bz : 0 < z ∧ z < 2147483648) (hc : m < 11 ∧ ¬ (k < m ∧ Q k = v)) :
    aE (d + 3) 220 [.ref y, .int (iI 325), .int (iI 2), .ref q] (mdW h y M, n, w, g) = some (.inl (some (.int (iI 1))), (mdW h y (alM M (insR 325 2 k m f M.2.1)), n, w, g)) := by
  have k80 := sr2_80 (d := d) (n := n) (w := w) (g := g) (h := h) (y := y) (M := M) hA0 hAP hm hQ hv hq hr hf hk h1 h2 hy
  have rz : gI (mdW h y M q) (iI 1) = some (iI z) := by
    have x := gI_I (N := 2) (f := f) (j := 1) (by omega) (by omega) (by omega)
    rw [md_out hq, hr, x]
    exact congrArg some hz
  have c3 : ¬ (z : Int) = 0 := by omega
  have c4 := eq_false hc.2
  have c5 : ¬ (m : Int) = 11 := by omega
  have ma : ∀ A A', aup (mdW h y (alM M A)) (y + 1) (aI .int 385 A') = mdW h y (alM M A') := fun A A' => md_a
  obtain ⟨A1, hA1⟩ : ∃ A1, A1 = va_cpy M.2.1 M.2.1 (325 + 1 + 2 * k) (325 + 1 + 2 * k + 2) (2 * (m - k)) := ⟨_, rfl⟩
  obtain ⟨A2, hA2⟩ : ∃ A2, A2 = upd A1 325 (iI (m + 1 : Nat)) := ⟨_, rfl⟩
  have cc := s_acopy (h := mdW h y M) (n := n) (r := (w, g)) (s := y + 1) (t := y + 1) (sp := 325 + 1 + 2 * k) (dp := 325 + 1 + 2 * k + 2) (m := 2 * (m - k)) md_1 md_1 (by omega) (by omega) (by omega) (by omega)
  rw [md_a, ← hA1] at cc
  have cc2 : aPrim 1001 [.ref (y + 1), .int (iI (325 + 1 + 2 * k : Nat)), .ref (y + 1), .int (iI (325 + 1 + 2 * k + 2 : Nat)), .int (iI (2 * (m - k) : Nat))] (mdW h y M, n, w, g) = some (.inl none, (mdW h y (alM M A1), n, w, g)) := cc
  have f1 : ((325 + 1 + 2 * k : Nat) : Int) + 2 = ((325 + 1 + 2 * k + 2 : Nat) : Int) := by omega
  have f2 : 2 * ((m : Int) - (k : Int)) = ((2 * (m - k) : Nat) : Int) := by omega
  have f5 : (m : Int) + 1 = ((m + 1 : Nat) : Int) := by omega
  have m0 := fun A => md_0 (h := h) (y := y) (M := alM M A)
  have m1 : ∀ A, mdW h y (alM M A) (y + 1) = some (aI .int 385 A) := fun A => md_1
  have gL : gI (some (aI .int 385 A1)) (iI 325) = some (iI m) := by
    have z := gI_I (N := 385) (f := A1) (j := 325) (by omega) (by omega) (by omega)
    rw [z]
    refine congrArg some ?_
    show A1 325 = _
    rw [hA1]
    unfold va_cpy
    rw [if_neg (by omega), hA0]
  have sL : sI (some (aI .int 385 A1)) (iI 325) (iI (m + 1 : Nat)) = some (aI .int 385 A2) := by
    have z := sI_I (N := 385) (f := A1) (j := 325) (x := iI (m + 1 : Nat)) (by omega) (by omega) (by omega)
    rw [z, hA2]
    rfl
  have hr2 : mdW h y (alM M A2) q = some (aI .int 2 f) := by rw [md_out hq, hr]
  have cd := s_acopy (h := mdW h y (alM M A2)) (n := n) (r := (w, g)) (s := q) (t := y + 1) (sp := 0) (dp := 325 + 1 + 2 * k) (m := 2) hr2 md_1 (by omega) (by omega) (by omega) (by omega)
  rw [ma, show va_cpy f (alM M A2).2.1 0 (325 + 1 + 2 * k) 2 = insR 325 2 k m f M.2.1 by rw [show (alM M A2).2.1 = A2 from rfl, hA2, hA1]; rfl, show ((0 : Nat) : Int) = 0 from rfl, show ((2 : Nat) : Int) = 2 from rfl] at cd
  rw [e220, k80]
  simp (disch := omega) only [r220_80, r220_81, r220_82, r220_83, r220_163, r220_165, r220_168, r220_170, r220_172, r220_175, r220_176, r220_177, r220_179, rz, iI_eq, c3, c4, c5, kl_n, kl_i, kl_r, kl_z, kl_l, kl_d, catS_0, catS_c, cat_i, cat_l, cat_d, cat_r, cat_n, kC_r, kC_x, Option.bind_some, Option.toList_some, Option.toList_none, List.cons_append, List.nil_append, gB0, gB1, gB2, gB3, gB4, rvB, nI_iI, i0, i1, l0_, wr_s, aup_s, and_true, true_and, and_self, eq_self, if_true, if_false, Nat.zero_le, Nat.reduceAdd, Nat.reduceLeDiff, gN_I, gN_L, gN_P, bI_0, bI_ok, z0, z1, Bool.true_eq, Bool.false_eq_true, not_true_eq_false, not_false_eq_true]
  simp (disch := omega) only [r220_182, r220_183, r220_186, r220_188, r220_189, r220_192, r220_194, r220_195, r220_196, r220_197, r220_199, r220_201, r220_202, r220_203, md_0, gB1, iI_add, iI_sub, iI_mul, f1, f2, cc2, kl_n, kl_i, kl_r, kl_z, kl_l, kl_d, catS_0, catS_c, cat_i, cat_l, cat_d, cat_r, cat_n, kC_r, kC_x, Option.bind_some, Option.toList_some, Option.toList_none, List.cons_append, List.nil_append, gB0, gB1, gB2, gB3, gB4, rvB, nI_iI, i0, i1, l0_, wr_s, aup_s, and_true, true_and, and_self, eq_self, if_true, if_false, Nat.zero_le, Nat.reduceAdd, Nat.reduceLeDiff, gN_I, gN_L, gN_P, bI_0, bI_ok, z0, z1, Bool.true_eq, Bool.false_eq_true, not_true_eq_false, not_false_eq_true]
  simp (disch := omega) only [r220_206, r220_207, r220_210, r220_211, r220_212, r220_213, r220_214, r220_215, m0, gB1, m1, gL, iI_add, f5, sL, ma, kl_n, kl_i, kl_r, kl_z, kl_l, kl_d, catS_0, catS_c, cat_i, cat_l, cat_d, cat_r, cat_n, kC_r, kC_x, Option.bind_some, Option.toList_some, Option.toList_none, List.cons_append, List.nil_append, gB0, gB1, gB2, gB3, gB4, rvB, nI_iI, i0, i1, l0_, wr_s, aup_s, and_true, true_and, and_self, eq_self, if_true, if_false, Nat.zero_le, Nat.reduceAdd, Nat.reduceLeDiff, gN_I, gN_L, gN_P, bI_0, bI_ok, z0, z1, Bool.true_eq, Bool.false_eq_true, not_true_eq_false, not_false_eq_true]
  simp (disch := omega) only [r220_216, r220_217, r220_218, r220_219, r220_222, r220_224, r220_225, r220_228, r220_229, m0, gB1, cd, kl_n, kl_i, kl_r, kl_z, kl_l, kl_d, catS_0, catS_c, cat_i, cat_l, cat_d, cat_r, cat_n, kC_r, kC_x, Option.bind_some, Option.toList_some, Option.toList_none, List.cons_append, List.nil_append, gB0, gB1, gB2, gB3, gB4, rvB, nI_iI, i0, i1, l0_, wr_s, aup_s, and_true, true_and, and_self, eq_self, if_true, if_false, Nat.zero_le, Nat.reduceAdd, Nat.reduceLeDiff, gN_I, gN_L, gN_P, bI_0, bI_ok, z0, z1, Bool.true_eq, Bool.false_eq_true, not_true_eq_false, not_false_eq_true]
theorem r_row2_set {m q k v z : Nat} {Q : Nat → Nat} {f : Nat → Int32} (hA0 : M.2.1 325 = iI m) (hAP : ∀ i, i < m → M.2.1 (325 + 1 + 2 * i) = iI (Q i)) (hm : m ≤ 11) (hQ : ∀ i, Q i < 2147483648) (hv : v < 2147483648) (hq : y + 531 ≤ q) (hr : h q = some (aI .int 2 f)) (hf : f 0 = iI v) (hk : k ≤ m) (h1 : ∀ i, i < k → Q i < v) (h2 : k = m ∨ v ≤ Q k) (hy : y + 531 ≤ n) (hz : f 1 = iI z) (bz : 0 < z ∧ z < 2147483648) (hc : k < m ∧ Q k = v) :
    aE (d + 3) 220 [.ref y, .int (iI 325), .int (iI 2), .ref q] (mdW h y M, n, w, g) = some (.inl (some (.int (iI 1))), (mdW h y (alM M (setR 325 2 k f M.2.1)), n, w, g)) := by
  have k80 := sr2_80 (d := d) (n := n) (w := w) (g := g) (h := h) (y := y) (M := M) hA0 hAP hm hQ hv hq hr hf hk h1 h2 hy
  have rz : gI (mdW h y M q) (iI 1) = some (iI z) := by
    have x := gI_I (N := 2) (f := f) (j := 1) (by omega) (by omega) (by omega)
    rw [md_out hq, hr, x]
    exact congrArg some hz
  have c3 : ¬ (z : Int) = 0 := by omega
  have c4 := eq_true hc
  have hr2 : mdW h y M q = some (aI .int 2 f) := by rw [md_out hq, hr]
  have cd := s_acopy (h := mdW h y M) (n := n) (r := (w, g)) (s := q) (t := y + 1) (sp := 0) (dp := 325 + 1 + 2 * k) (m := 2) hr2 md_1 (by omega) (by omega) (by omega) (by omega)
  rw [md_a, show ((0 : Nat) : Int) = 0 from rfl, show ((2 : Nat) : Int) = 2 from rfl] at cd
  rw [e220, k80]
  simp (disch := omega) only [r220_80, r220_81, r220_82, r220_83, r220_163, r220_165, r220_168, r220_170, r220_172, r220_175, r220_176, r220_177, r220_179, rz, iI_eq, c3, c4, kl_n, kl_i, kl_r, kl_z, kl_l, kl_d, catS_0, catS_c, cat_i, cat_l, cat_d, cat_r, cat_n, kC_r, kC_x, Option.bind_some, Option.toList_some, Option.toList_none, List.cons_append, List.nil_append, gB0, gB1, gB2, gB3, gB4, rvB, nI_iI, i0, i1, l0_, wr_s, aup_s, and_true, true_and, and_self, eq_self, if_true, if_false, Nat.zero_le, Nat.reduceAdd, Nat.reduceLeDiff, gN_I, gN_L, gN_P, bI_0, bI_ok, z0, z1, Bool.true_eq, Bool.false_eq_true, not_true_eq_false, not_false_eq_true]
  simp (disch := omega) only [r220_216, r220_217, r220_218, r220_219, r220_222, r220_224, r220_225, r220_228, r220_229, md_0, gB1, cd, kl_n, kl_i, kl_r, kl_z, kl_l, kl_d, catS_0, catS_c, cat_i, cat_l, cat_d, cat_r, cat_n, kC_r, kC_x, Option.bind_some, Option.toList_some, Option.toList_none, List.cons_append, List.nil_append, gB0, gB1, gB2, gB3, gB4, rvB, nI_iI, i0, i1, l0_, wr_s, aup_s, and_true, true_and, and_self, eq_self, if_true, if_false, Nat.zero_le, Nat.reduceAdd, Nat.reduceLeDiff, gN_I, gN_L, gN_P, bI_0, bI_ok, z0, z1, Bool.true_eq, Bool.false_eq_true, not_true_eq_false, not_false_eq_true]
  rfl
theorem sr3_11 {m q k v : Nat} {Q : Nat → Nat} {f : Nat → Int32} {l6 l7 : Option Value} (hA0 : M.2.1 348 = iI m) (hAP : ∀ i, i < m → M.2.1 (348 + 1 + 3 * i) = iI (Q i)) (hm : m ≤ 11) (hQ : ∀ i, Q i < 2147483648) (hv : v < 2147483648) (hq : y + 531 ≤ q) (hr : h q = some (aI .int 3 f)) (hf : f 0 = iI v) (hk : k ≤ m) (h1 : ∀ i, i < k → Q i < v) (h2 : k = m ∨ v ≤ Q k) : ∀ z i : Nat, i + z = k →
    L (d + 2) 220 11 [some (.ref y), some (.int (iI 348)), some (.int (iI 3)), some (.ref q), some (.int (iI m)), some (.int (iI i)), l6, l7] [] (mdW h y M, n, w, g) = L (d + 2) 220 43 [some (.ref y), some (.int (iI 348)), some (.int (iI 3)), some (.ref q), some (.int (iI m)), some (.int (iI k)), l6, l7] [] (mdW h y M, n, w, g) := by
  have rf : gI (mdW h y M q) (iI 0) = some (iI v) := by rw [md_out hq, hr, gI_0 (by omega), hf]
  have en : ∀ i, i < m → gI (mdW h y M (y + 1)) (iI ((348 + 1 + 3 * i : Nat) : Int)) = some (iI (Q i)) := fun i hi => by
    rw [md_1, gI_I (by omega) (by omega) (by omega), Int.toNat_natCast, hAP i hi]
  have e0 : (348 : Int) + 1 = ((348 + 1 : Nat) : Int) := by omega
  intro z
  induction z with
  | zero =>
    intro i hi
    obtain rfl : i = k := by omega
    have bq := hQ i
    rw [r220_11]
    by_cases c : i = m
    · have c1 : (m : Int) ≤ i := by omega
      simp (disch := omega) only [r220_13, r220_15, r220_18, r220_19, r220_22, r220_23, r220_24, r220_25, r220_26, r220_28, r220_29, r220_30, r220_31, r220_32, r220_33, r220_34, r220_37, r220_40, iI_le, c1, kl_n, kl_i, kl_r, kl_z, kl_l, kl_d, catS_0, catS_c, cat_i, cat_l, cat_d, cat_r, cat_n, kC_r, kC_x, Option.bind_some, Option.toList_some, Option.toList_none, List.cons_append, List.nil_append, gB0, gB1, gB2, gB3, gB4, rvB, nI_iI, i0, i1, l0_, wr_s, aup_s, and_true, true_and, and_self, eq_self, if_true, if_false, Nat.zero_le, Nat.reduceAdd, Nat.reduceLeDiff, gN_I, gN_L, gN_P, bI_0, bI_ok, z0, z1, Bool.true_eq, Bool.false_eq_true, not_true_eq_false, not_false_eq_true]
    · have c1 : ¬ (m : Int) ≤ i := by omega
      have c2 : (v : Int) ≤ (Q i : Int) := by
        have := h2.resolve_left c
        omega
      have e1 : (348 : Int) + 1 + 3 * (i : Int) = ((348 + 1 + 3 * i : Nat) : Int) := by omega
      simp (disch := omega) only [r220_13, r220_15, r220_18, r220_19, r220_22, r220_23, r220_24, r220_25, r220_26, r220_28, r220_29, r220_30, r220_31, r220_32, r220_33, r220_34, r220_37, r220_40, iI_le, c1, md_0, gB1, iI_add, iI_mul, e1, en i (by omega), rf, c2, kl_n, kl_i, kl_r, kl_z, kl_l, kl_d, catS_0, catS_c, cat_i, cat_l, cat_d, cat_r, cat_n, kC_r, kC_x, Option.bind_some, Option.toList_some, Option.toList_none, List.cons_append, List.nil_append, gB0, gB1, gB2, gB3, gB4, rvB, nI_iI, i0, i1, l0_, wr_s, aup_s, and_true, true_and, and_self, eq_self, if_true, if_false, Nat.zero_le, Nat.reduceAdd, Nat.reduceLeDiff, gN_I, gN_L, gN_P, bI_0, bI_ok, z0, z1, Bool.true_eq, Bool.false_eq_true, not_true_eq_false, not_false_eq_true]
  | succ z ih =>
    intro i hi
    have bq := hQ i
    have := h1 i (by omega)
    have c1 : ¬ (m : Int) ≤ i := by omega
    have c2 : ¬ (v : Int) ≤ (Q i : Int) := by omega
    have e1 : (348 : Int) + 1 + 3 * (i : Int) = ((348 + 1 + 3 * i : Nat) : Int) := by omega
    have e2 : (i : Int) + 1 = ((i + 1 : Nat) : Int) := by omega
    rw [r220_11]
    simp (disch := omega) only [r220_13, r220_15, r220_18, r220_19, r220_22, r220_23, r220_24, r220_25, r220_26, r220_28, r220_29, r220_30, r220_31, r220_32, r220_33, r220_34, r220_37, r220_40, iI_le, c1, md_0, gB1, iI_add, iI_mul, e1, en i (by omega), rf, c2, e2, ih (i + 1) (by omega), kl_n, kl_i, kl_r, kl_z, kl_l, kl_d, catS_0, catS_c, cat_i, cat_l, cat_d, cat_r, cat_n, kC_r, kC_x, Option.bind_some, Option.toList_some, Option.toList_none, List.cons_append, List.nil_append, gB0, gB1, gB2, gB3, gB4, rvB, nI_iI, i0, i1, l0_, wr_s, aup_s, and_true, true_and, and_self, eq_self, if_true, if_false, Nat.zero_le, Nat.reduceAdd, Nat.reduceLeDiff, gN_I, gN_L, gN_P, bI_0, bI_ok, z0, z1, Bool.true_eq, Bool.false_eq_true, not_true_eq_false, not_false_eq_true]
theorem sr3_80 {m q k v : Nat} {Q : Nat → Nat} {f : Nat → Int32} (hA0 : M.2.1 348 = iI m) (hAP : ∀ i, i < m → M.2.1 (348 + 1 + 3 * i) = iI (Q i)) (hm : m ≤ 11) (hQ : ∀ i, Q i < 2147483648) (hv : v < 2147483648) (hq : y + 531 ≤ q) (hr : h q = some (aI .int 3 f)) (hf : f 0 = iI v) (hk : k ≤ m) (h1 : ∀ i, i < k → Q i < v) (h2 : k = m ∨ v ≤ Q k) (hy : y + 531 ≤ n) :
    L (d + 2) 220 0 [some (.ref y), some (.int (iI 348)), some (.int (iI 3)), some (.ref q), none, none, none, none] [] (mdW h y M, n, w, g) = L (d + 2) 220 80 [some (.ref y), some (.int (iI 348)), some (.int (iI 3)), some (.ref q), some (.int (iI m)), some (.int (iI k)), some (.int (iI (348 + 1 + 3 * k : Nat))), some (.int (bI (k < m ∧ Q k = v)))] [] (mdW h y M, n, w, g) := by
  have k11 := sr3_11 (d := d) (n := n) (w := w) (g := g) (h := h) (y := y) (M := M) (l6 := none) (l7 := none) hA0 hAP hm hQ hv hq hr hf hk h1 h2 k 0 (by omega)
  rw [show ((0 : Nat) : Int) = 0 from rfl] at k11
  have rf : gI (mdW h y M q) (iI 0) = some (iI v) := by rw [md_out hq, hr, gI_0 (by omega), hf]
  have en : ∀ i, i < m → gI (mdW h y M (y + 1)) (iI ((348 + 1 + 3 * i : Nat) : Int)) = some (iI (Q i)) := fun i hi => by
    rw [md_1, gI_I (by omega) (by omega) (by omega), Int.toNat_natCast, hAP i hi]
  have gL : gI (mdW h y M (y + 1)) (iI 348) = some (iI m) := by
    have z := gI_I (N := 385) (f := M.2.1) (j := 348) (by omega) (by omega) (by omega)
    rw [md_1, z]
    exact congrArg some hA0
  have e1 : (348 : Int) + 1 + 3 * (k : Int) = ((348 + 1 + 3 * k : Nat) : Int) := by omega
  have bq := hQ k
  simp (disch := omega) only [r220_0, r220_1, r220_4, r220_5, r220_6, r220_8, r220_9, md_0, gB1, gL, k11, kl_n, kl_i, kl_r, kl_z, kl_l, kl_d, catS_0, catS_c, cat_i, cat_l, cat_d, cat_r, cat_n, kC_r, kC_x, Option.bind_some, Option.toList_some, Option.toList_none, List.cons_append, List.nil_append, gB0, gB1, gB2, gB3, gB4, rvB, nI_iI, i0, i1, l0_, wr_s, aup_s, and_true, true_and, and_self, eq_self, if_true, if_false, Nat.zero_le, Nat.reduceAdd, Nat.reduceLeDiff, gN_I, gN_L, gN_P, bI_0, bI_ok, z0, z1, Bool.true_eq, Bool.false_eq_true, not_true_eq_false, not_false_eq_true]
  by_cases c : k = m
  · have c1 : (m : Int) ≤ k := by omega
    rw [show bI (k < m ∧ Q k = v) = iI 0 from if_neg (fun z => by omega)]
    simp (disch := omega) only [r220_43, r220_44, r220_45, r220_46, r220_47, r220_49, r220_50, r220_51, r220_53, r220_55, r220_57, r220_60, r220_61, r220_64, r220_66, r220_67, r220_68, r220_69, r220_70, r220_73, r220_74, r220_77, r220_78, iI_add, iI_mul, e1, iI_le, c1, kl_n, kl_i, kl_r, kl_z, kl_l, kl_d, catS_0, catS_c, cat_i, cat_l, cat_d, cat_r, cat_n, kC_r, kC_x, Option.bind_some, Option.toList_some, Option.toList_none, List.cons_append, List.nil_append, gB0, gB1, gB2, gB3, gB4, rvB, nI_iI, i0, i1, l0_, wr_s, aup_s, and_true, true_and, and_self, eq_self, if_true, if_false, Nat.zero_le, Nat.reduceAdd, Nat.reduceLeDiff, gN_I, gN_L, gN_P, bI_0, bI_ok, z0, z1, Bool.true_eq, Bool.false_eq_true, not_true_eq_false, not_false_eq_true]
  · have c1 : ¬ (m : Int) ≤ k := by omega
    by_cases c2 : Q k = v
    · have c3 : (Q k : Int) = v := by omega
      rw [show bI (k < m ∧ Q k = v) = iI 1 from if_pos ⟨by omega, c2⟩]
      simp (disch := omega) only [r220_43, r220_44, r220_45, r220_46, r220_47, r220_49, r220_50, r220_51, r220_53, r220_55, r220_57, r220_60, r220_61, r220_64, r220_66, r220_67, r220_68, r220_69, r220_70, r220_73, r220_74, r220_77, r220_78, iI_add, iI_mul, e1, iI_le, c1, md_0, gB1, en k (by omega), rf, iI_eq, c3, kl_n, kl_i, kl_r, kl_z, kl_l, kl_d, catS_0, catS_c, cat_i, cat_l, cat_d, cat_r, cat_n, kC_r, kC_x, Option.bind_some, Option.toList_some, Option.toList_none, List.cons_append, List.nil_append, gB0, gB1, gB2, gB3, gB4, rvB, nI_iI, i0, i1, l0_, wr_s, aup_s, and_true, true_and, and_self, eq_self, if_true, if_false, Nat.zero_le, Nat.reduceAdd, Nat.reduceLeDiff, gN_I, gN_L, gN_P, bI_0, bI_ok, z0, z1, Bool.true_eq, Bool.false_eq_true, not_true_eq_false, not_false_eq_true]
    · have c3 : ¬ (Q k : Int) = v := by omega
      rw [show bI (k < m ∧ Q k = v) = iI 0 from if_neg (fun z => c2 z.2)]
      simp (disch := omega) only [r220_43, r220_44, r220_45, r220_46, r220_47, r220_49, r220_50, r220_51, r220_53, r220_55, r220_57, r220_60, r220_61, r220_64, r220_66, r220_67, r220_68, r220_69, r220_70, r220_73, r220_74, r220_77, r220_78, iI_add, iI_mul, e1, iI_le, c1, md_0, gB1, en k (by omega), rf, iI_eq, c3, kl_n, kl_i, kl_r, kl_z, kl_l, kl_d, catS_0, catS_c, cat_i, cat_l, cat_d, cat_r, cat_n, kC_r, kC_x, Option.bind_some, Option.toList_some, Option.toList_none, List.cons_append, List.nil_append, gB0, gB1, gB2, gB3, gB4, rvB, nI_iI, i0, i1, l0_, wr_s, aup_s, and_true, true_and, and_self, eq_self, if_true, if_false, Nat.zero_le, Nat.reduceAdd, Nat.reduceLeDiff, gN_I, gN_L, gN_P, bI_0, bI_ok, z0, z1, Bool.true_eq, Bool.false_eq_true, not_true_eq_false, not_false_eq_true]
theorem r_row3_no {m q k v z : Nat} {Q : Nat → Nat} {f : Nat → Int32} (hA0 : M.2.1 348 = iI m) (hAP : ∀ i, i < m → M.2.1 (348 + 1 + 3 * i) = iI (Q i)) (hm : m ≤ 11) (hQ : ∀ i, Q i < 2147483648) (hv : v < 2147483648) (hq : y + 531 ≤ q) (hr : h q = some (aI .int 3 f)) (hf : f 0 = iI v) (hk : k ≤ m) (h1 : ∀ i, i < k → Q i < v) (h2 : k = m ∨ v ≤ Q k) (hy : y + 531 ≤ n) (hz : f 1 = iI z) (bz : z < 2147483648) (hc : if z = 0 then v = 0 ∨ ¬ (k < m ∧ Q k = v) else m = 11 ∧ ¬ (k < m ∧ Q k = v)) :
    aE (d + 3) 220 [.ref y, .int (iI 348), .int (iI 3), .ref q] (mdW h y M, n, w, g) = some (.inl (some (.int (iI 0))), (mdW h y M, n, w, g)) := by
  have k80 := sr3_80 (d := d) (n := n) (w := w) (g := g) (h := h) (y := y) (M := M) hA0 hAP hm hQ hv hq hr hf hk h1 h2 hy
  have rf : gI (mdW h y M q) (iI 0) = some (iI v) := by rw [md_out hq, hr, gI_0 (by omega), hf]
  have rz : gI (mdW h y M q) (iI 1) = some (iI z) := by
    have x := gI_I (N := 3) (f := f) (j := 1) (by omega) (by omega) (by omega)
    rw [md_out hq, hr, x]
    exact congrArg some hz
  rw [e220, k80]
  by_cases c : z = 0
  · rw [if_pos c] at hc
    have c1 : (z : Int) = 0 := by omega
    by_cases c2 : v = 0
    · have c3 : (v : Int) = 0 := by omega
      simp (disch := omega) only [r220_80, r220_81, r220_82, r220_83, r220_86, r220_87, r220_88, r220_89, r220_92, r220_94, r220_97, r220_98, rz, iI_eq, c1, rf, c3, kl_n, kl_i, kl_r, kl_z, kl_l, kl_d, catS_0, catS_c, cat_i, cat_l, cat_d, cat_r, cat_n, kC_r, kC_x, Option.bind_some, Option.toList_some, Option.toList_none, List.cons_append, List.nil_append, gB0, gB1, gB2, gB3, gB4, rvB, nI_iI, i0, i1, l0_, wr_s, aup_s, and_true, true_and, and_self, eq_self, if_true, if_false, Nat.zero_le, Nat.reduceAdd, Nat.reduceLeDiff, gN_I, gN_L, gN_P, bI_0, bI_ok, z0, z1, Bool.true_eq, Bool.false_eq_true, not_true_eq_false, not_false_eq_true]
    · have c3 : ¬ (v : Int) = 0 := by omega
      have c4 := eq_false (hc.resolve_left c2)
      simp (disch := omega) only [r220_80, r220_81, r220_82, r220_83, r220_86, r220_87, r220_88, r220_89, r220_92, r220_94, r220_97, r220_98, rz, iI_eq, c1, rf, c3, c4, kl_n, kl_i, kl_r, kl_z, kl_l, kl_d, catS_0, catS_c, cat_i, cat_l, cat_d, cat_r, cat_n, kC_r, kC_x, Option.bind_some, Option.toList_some, Option.toList_none, List.cons_append, List.nil_append, gB0, gB1, gB2, gB3, gB4, rvB, nI_iI, i0, i1, l0_, wr_s, aup_s, and_true, true_and, and_self, eq_self, if_true, if_false, Nat.zero_le, Nat.reduceAdd, Nat.reduceLeDiff, gN_I, gN_L, gN_P, bI_0, bI_ok, z0, z1, Bool.true_eq, Bool.false_eq_true, not_true_eq_false, not_false_eq_true]
  · rw [if_neg c] at hc
    have c1 : ¬ (z : Int) = 0 := by omega
    have c4 := eq_false hc.2
    have c5 : (m : Int) = 11 := by omega
    simp (disch := omega) only [r220_80, r220_81, r220_82, r220_83, r220_163, r220_165, r220_168, r220_170, r220_172, r220_175, r220_176, rz, iI_eq, c1, c4, c5, kl_n, kl_i, kl_r, kl_z, kl_l, kl_d, catS_0, catS_c, cat_i, cat_l, cat_d, cat_r, cat_n, kC_r, kC_x, Option.bind_some, Option.toList_some, Option.toList_none, List.cons_append, List.nil_append, gB0, gB1, gB2, gB3, gB4, rvB, nI_iI, i0, i1, l0_, wr_s, aup_s, and_true, true_and, and_self, eq_self, if_true, if_false, Nat.zero_le, Nat.reduceAdd, Nat.reduceLeDiff, gN_I, gN_L, gN_P, bI_0, bI_ok, z0, z1, Bool.true_eq, Bool.false_eq_true, not_true_eq_false, not_false_eq_true]
theorem r_row3_del {m q k v : Nat} {Q : Nat → Nat} {f : Nat → Int32} (hA0 : M.2.1 348 = iI m) (hAP : ∀ i, i < m → M.2.1 (348 + 1 + 3 * i) = iI (Q i)) (hm : m ≤ 11) (hQ : ∀ i, Q i < 2147483648) (hv : v < 2147483648) (hq : y + 531 ≤ q) (hr : h q = some (aI .int 3 f)) (hf : f 0 = iI v) (hk : k ≤ m) (h1 : ∀ i, i < k → Q i < v) (h2 : k = m ∨ v ≤ Q k) (hy : y + 531 ≤ n) (hz : f 1 = iI 0) (hc : 0 < v ∧ k < m ∧ Q k = v) :
    aE (d + 3) 220 [.ref y, .int (iI 348), .int (iI 3), .ref q] (mdW h y M, n, w, g) = some (.inl (some (.int (iI 1))), (mdW h y (alM M (delR 348 3 k m M.2.1)), n, w, g)) := by
  have k80 := sr3_80 (d := d) (n := n) (w := w) (g := g) (h := h) (y := y) (M := M) hA0 hAP hm hQ hv hq hr hf hk h1 h2 hy
  have rf : gI (mdW h y M q) (iI 0) = some (iI v) := by rw [md_out hq, hr, gI_0 (by omega), hf]
  have rz : gI (mdW h y M q) (iI 1) = some (iI 0) := by
    have x := gI_I (N := 3) (f := f) (j := 1) (by omega) (by omega) (by omega)
    rw [md_out hq, hr, x]
    exact congrArg some hz
  have c3 : ¬ (v : Int) = 0 := by omega
  have c4 := eq_true hc.2
  have ma : ∀ A A', aup (mdW h y (alM M A)) (y + 1) (aI .int 385 A') = mdW h y (alM M A') := fun A A' => md_a
  obtain ⟨A1, hA1⟩ : ∃ A1, A1 = va_cpy M.2.1 M.2.1 (348 + 1 + 3 * k + 3) (348 + 1 + 3 * k) (3 * (m - k - 1)) := ⟨_, rfl⟩
  obtain ⟨A2, hA2⟩ : ∃ A2, A2 = flF A1 (348 + 1 + 3 * (m - 1)) (348 + 1 + 3 * m) (iI 0) := ⟨_, rfl⟩
  have cc := s_acopy (h := mdW h y M) (n := n) (r := (w, g)) (s := y + 1) (t := y + 1) (sp := 348 + 1 + 3 * k + 3) (dp := 348 + 1 + 3 * k) (m := 3 * (m - k - 1)) md_1 md_1 (by omega) (by omega) (by omega) (by omega)
  rw [md_a, ← hA1] at cc
  have cc2 : aPrim 1001 [.ref (y + 1), .int (iI (348 + 1 + 3 * k + 3 : Nat)), .ref (y + 1), .int (iI (348 + 1 + 3 * k : Nat)), .int (iI (3 * (m - k - 1) : Nat))] (mdW h y M, n, w, g) = some (.inl none, (mdW h y (alM M A1), n, w, g)) := cc
  have fl := s_fill (d := d) (h := mdW h y (alM M A1)) (r := (n, w, g)) (p := y + 1) (f := A1) (a := 348 + 1 + 3 * (m - 1)) (b := 348 + 1 + 3 * m) (v := iI 0) md_1 (by omega)
  rw [ma, ← hA2] at fl
  have f1 : ((348 + 1 + 3 * k : Nat) : Int) + 3 = ((348 + 1 + 3 * k + 3 : Nat) : Int) := by omega
  have f2 : 3 * ((m : Int) - (k : Int) - 1) = ((3 * (m - k - 1) : Nat) : Int) := by omega
  have f3 : (348 : Int) + 1 + 3 * ((m : Int) - 1) = ((348 + 1 + 3 * (m - 1) : Nat) : Int) := by omega
  have f4 : (348 : Int) + 1 + 3 * (m : Int) = ((348 + 1 + 3 * m : Nat) : Int) := by omega
  have f5 : (m : Int) - 1 = ((m - 1 : Nat) : Int) := by omega
  have m0 := fun A => md_0 (h := h) (y := y) (M := alM M A)
  have m1 : ∀ A, mdW h y (alM M A) (y + 1) = some (aI .int 385 A) := fun A => md_1
  have gL : gI (some (aI .int 385 A2)) (iI 348) = some (iI m) := by
    have z := gI_I (N := 385) (f := A2) (j := 348) (by omega) (by omega) (by omega)
    rw [z]
    refine congrArg some ?_
    show A2 348 = _
    rw [hA2, hA1]
    unfold flF va_cpy
    rw [if_neg (by omega), if_neg (by omega), hA0]
  have sL : sI (some (aI .int 385 A2)) (iI 348) (iI (m - 1 : Nat)) = some (aI .int 385 (delR 348 3 k m M.2.1)) := by
    have z := sI_I (N := 385) (f := A2) (j := 348) (x := iI (m - 1 : Nat)) (by omega) (by omega) (by omega)
    rw [z, hA2, hA1]
    rfl
  rw [e220, k80]
  simp (disch := omega) only [r220_80, r220_81, r220_82, r220_83, r220_86, r220_87, r220_88, r220_89, r220_92, r220_94, r220_97, r220_98, rz, iI_eq, rf, c3, c4, kl_n, kl_i, kl_r, kl_z, kl_l, kl_d, catS_0, catS_c, cat_i, cat_l, cat_d, cat_r, cat_n, kC_r, kC_x, Option.bind_some, Option.toList_some, Option.toList_none, List.cons_append, List.nil_append, gB0, gB1, gB2, gB3, gB4, rvB, nI_iI, i0, i1, l0_, wr_s, aup_s, and_true, true_and, and_self, eq_self, if_true, if_false, Nat.zero_le, Nat.reduceAdd, Nat.reduceLeDiff, gN_I, gN_L, gN_P, bI_0, bI_ok, z0, z1, Bool.true_eq, Bool.false_eq_true, not_true_eq_false, not_false_eq_true]
  simp (disch := omega) only [r220_99, r220_100, r220_103, r220_105, r220_106, r220_107, r220_108, r220_111, r220_113, r220_114, r220_116, r220_118, r220_119, r220_120, r220_121, r220_122, md_0, gB1, iI_add, iI_sub, iI_mul, f1, f2, cc2, kl_n, kl_i, kl_r, kl_z, kl_l, kl_d, catS_0, catS_c, cat_i, cat_l, cat_d, cat_r, cat_n, kC_r, kC_x, Option.bind_some, Option.toList_some, Option.toList_none, List.cons_append, List.nil_append, gB0, gB1, gB2, gB3, gB4, rvB, nI_iI, i0, i1, l0_, wr_s, aup_s, and_true, true_and, and_self, eq_self, if_true, if_false, Nat.zero_le, Nat.reduceAdd, Nat.reduceLeDiff, gN_I, gN_L, gN_P, bI_0, bI_ok, z0, z1, Bool.true_eq, Bool.false_eq_true, not_true_eq_false, not_false_eq_true]
  simp (disch := omega) only [r220_125, r220_126, r220_129, r220_130, r220_131, r220_132, r220_133, r220_135, r220_136, r220_137, r220_138, r220_139, r220_140, r220_141, r220_142, r220_143, r220_145, r220_146, r220_147, r220_148, m0, gB1, iI_sub, iI_mul, iI_add, f3, f4, fl, kl_n, kl_i, kl_r, kl_z, kl_l, kl_d, catS_0, catS_c, cat_i, cat_l, cat_d, cat_r, cat_n, kC_r, kC_x, Option.bind_some, Option.toList_some, Option.toList_none, List.cons_append, List.nil_append, gB0, gB1, gB2, gB3, gB4, rvB, nI_iI, i0, i1, l0_, wr_s, aup_s, and_true, true_and, and_self, eq_self, if_true, if_false, Nat.zero_le, Nat.reduceAdd, Nat.reduceLeDiff, gN_I, gN_L, gN_P, bI_0, bI_ok, z0, z1, Bool.true_eq, Bool.false_eq_true, not_true_eq_false, not_false_eq_true]
  simp (disch := omega) only [r220_151, r220_152, r220_155, r220_156, r220_157, r220_158, r220_159, r220_160, r220_161, r220_162, m0, gB1, m1, gL, iI_sub, f5, sL, ma, kl_n, kl_i, kl_r, kl_z, kl_l, kl_d, catS_0, catS_c, cat_i, cat_l, cat_d, cat_r, cat_n, kC_r, kC_x, Option.bind_some, Option.toList_some, Option.toList_none, List.cons_append, List.nil_append, gB0, gB1, gB2, gB3, gB4, rvB, nI_iI, i0, i1, l0_, wr_s, aup_s, and_true, true_and, and_self, eq_self, if_true, if_false, Nat.zero_le, Nat.reduceAdd, Nat.reduceLeDiff, gN_I, gN_L, gN_P, bI_0, bI_ok, z0, z1, Bool.true_eq, Bool.false_eq_true, not_true_eq_false, not_false_eq_true]
theorem r_row3_ins {m q k v z : Nat} {Q : Nat → Nat} {f : Nat → Int32} (hA0 : M.2.1 348 = iI m) (hAP : ∀ i, i < m → M.2.1 (348 + 1 + 3 * i) = iI (Q i)) (hm : m ≤ 11) (hQ : ∀ i, Q i < 2147483648) (hv : v < 2147483648) (hq : y + 531 ≤ q) (hr : h q = some (aI .int 3 f)) (hf : f 0 = iI v) (hk : k ≤ m) (h1 : ∀ i, i < k → Q i < v) (h2 : k = m ∨ v ≤ Q k) (hy : y + 531 ≤ n) (hz : f 1 = iI z) (bz : 0 < z ∧ z < 2147483648) (hc : m < 11 ∧ ¬ (k < m ∧ Q k = v)) :
    aE (d + 3) 220 [.ref y, .int (iI 348), .int (iI 3), .ref q] (mdW h y M, n, w, g) = some (.inl (some (.int (iI 1))), (mdW h y (alM M (insR 348 3 k m f M.2.1)), n, w, g)) := by
  have k80 := sr3_80 (d := d) (n := n) (w := w) (g := g) (h := h) (y := y) (M := M) hA0 hAP hm hQ hv hq hr hf hk h1 h2 hy
  have rz : gI (mdW h y M q) (iI 1) = some (iI z) := by
    have x := gI_I (N := 3) (f := f) (j := 1) (by omega) (by omega) (by omega)
    rw [md_out hq, hr, x]
    exact congrArg some hz
  have c3 : ¬ (z : Int) = 0 := by omega
  have c4 := eq_false hc.2
  have c5 : ¬ (m : Int) = 11 := by omega
  have ma : ∀ A A', aup (mdW h y (alM M A)) (y + 1) (aI .int 385 A') = mdW h y (alM M A') := fun A A' => md_a
  obtain ⟨A1, hA1⟩ : ∃ A1, A1 = va_cpy M.2.1 M.2.1 (348 + 1 + 3 * k) (348 + 1 + 3 * k + 3) (3 * (m - k)) := ⟨_, rfl⟩
  obtain ⟨A2, hA2⟩ : ∃ A2, A2 = upd A1 348 (iI (m + 1 : Nat)) := ⟨_, rfl⟩
  have cc := s_acopy (h := mdW h y M) (n := n) (r := (w, g)) (s := y + 1) (t := y + 1) (sp := 348 + 1 + 3 * k) (dp := 348 + 1 + 3 * k + 3) (m := 3 * (m - k)) md_1 md_1 (by omega) (by omega) (by omega) (by omega)
  rw [md_a, ← hA1] at cc
  have cc2 : aPrim 1001 [.ref (y + 1), .int (iI (348 + 1 + 3 * k : Nat)), .ref (y + 1), .int (iI (348 + 1 + 3 * k + 3 : Nat)), .int (iI (3 * (m - k) : Nat))] (mdW h y M, n, w, g) = some (.inl none, (mdW h y (alM M A1), n, w, g)) := cc
  have f1 : ((348 + 1 + 3 * k : Nat) : Int) + 3 = ((348 + 1 + 3 * k + 3 : Nat) : Int) := by omega
  have f2 : 3 * ((m : Int) - (k : Int)) = ((3 * (m - k) : Nat) : Int) := by omega
  have f5 : (m : Int) + 1 = ((m + 1 : Nat) : Int) := by omega
  have m0 := fun A => md_0 (h := h) (y := y) (M := alM M A)
  have m1 : ∀ A, mdW h y (alM M A) (y + 1) = some (aI .int 385 A) := fun A => md_1
  have gL : gI (some (aI .int 385 A1)) (iI 348) = some (iI m) := by
    have z := gI_I (N := 385) (f := A1) (j := 348) (by omega) (by omega) (by omega)
    rw [z]
    refine congrArg some ?_
    show A1 348 = _
    rw [hA1]
    unfold va_cpy
    rw [if_neg (by omega), hA0]
  have sL : sI (some (aI .int 385 A1)) (iI 348) (iI (m + 1 : Nat)) = some (aI .int 385 A2) := by
    have z := sI_I (N := 385) (f := A1) (j := 348) (x := iI (m + 1 : Nat)) (by omega) (by omega) (by omega)
    rw [z, hA2]
    rfl
  have hr2 : mdW h y (alM M A2) q = some (aI .int 3 f) := by rw [md_out hq, hr]
  have cd := s_acopy (h := mdW h y (alM M A2)) (n := n) (r := (w, g)) (s := q) (t := y + 1) (sp := 0) (dp := 348 + 1 + 3 * k) (m := 3) hr2 md_1 (by omega) (by omega) (by omega) (by omega)
  rw [ma, show va_cpy f (alM M A2).2.1 0 (348 + 1 + 3 * k) 3 = insR 348 3 k m f M.2.1 by rw [show (alM M A2).2.1 = A2 from rfl, hA2, hA1]; rfl, show ((0 : Nat) : Int) = 0 from rfl, show ((3 : Nat) : Int) = 3 from rfl] at cd
  rw [e220, k80]
  simp (disch := omega) only [r220_80, r220_81, r220_82, r220_83, r220_163, r220_165, r220_168, r220_170, r220_172, r220_175, r220_176, r220_177, r220_179, rz, iI_eq, c3, c4, c5, kl_n, kl_i, kl_r, kl_z, kl_l, kl_d, catS_0, catS_c, cat_i, cat_l, cat_d, cat_r, cat_n, kC_r, kC_x, Option.bind_some, Option.toList_some, Option.toList_none, List.cons_append, List.nil_append, gB0, gB1, gB2, gB3, gB4, rvB, nI_iI, i0, i1, l0_, wr_s, aup_s, and_true, true_and, and_self, eq_self, if_true, if_false, Nat.zero_le, Nat.reduceAdd, Nat.reduceLeDiff, gN_I, gN_L, gN_P, bI_0, bI_ok, z0, z1, Bool.true_eq, Bool.false_eq_true, not_true_eq_false, not_false_eq_true]
  simp (disch := omega) only [r220_182, r220_183, r220_186, r220_188, r220_189, r220_192, r220_194, r220_195, r220_196, r220_197, r220_199, r220_201, r220_202, r220_203, md_0, gB1, iI_add, iI_sub, iI_mul, f1, f2, cc2, kl_n, kl_i, kl_r, kl_z, kl_l, kl_d, catS_0, catS_c, cat_i, cat_l, cat_d, cat_r, cat_n, kC_r, kC_x, Option.bind_some, Option.toList_some, Option.toList_none, List.cons_append, List.nil_append, gB0, gB1, gB2, gB3, gB4, rvB, nI_iI, i0, i1, l0_, wr_s, aup_s, and_true, true_and, and_self, eq_self, if_true, if_false, Nat.zero_le, Nat.reduceAdd, Nat.reduceLeDiff, gN_I, gN_L, gN_P, bI_0, bI_ok, z0, z1, Bool.true_eq, Bool.false_eq_true, not_true_eq_false, not_false_eq_true]
  simp (disch := omega) only [r220_206, r220_207, r220_210, r220_211, r220_212, r220_213, r220_214, r220_215, m0, gB1, m1, gL, iI_add, f5, sL, ma, kl_n, kl_i, kl_r, kl_z, kl_l, kl_d, catS_0, catS_c, cat_i, cat_l, cat_d, cat_r, cat_n, kC_r, kC_x, Option.bind_some, Option.toList_some, Option.toList_none, List.cons_append, List.nil_append, gB0, gB1, gB2, gB3, gB4, rvB, nI_iI, i0, i1, l0_, wr_s, aup_s, and_true, true_and, and_self, eq_self, if_true, if_false, Nat.zero_le, Nat.reduceAdd, Nat.reduceLeDiff, gN_I, gN_L, gN_P, bI_0, bI_ok, z0, z1, Bool.true_eq, Bool.false_eq_true, not_true_eq_false, not_false_eq_true]
  simp (disch := omega) only [r220_216, r220_217, r220_218, r220_219, r220_222, r220_224, r220_225, r220_228, r220_229, m0, gB1, cd, kl_n, kl_i, kl_r, kl_z, kl_l, kl_d, catS_0, catS_c, cat_i, cat_l, cat_d, cat_r, cat_n, kC_r, kC_x, Option.bind_some, Option.toList_some, Option.toList_none, List.cons_append, List.nil_append, gB0, gB1, gB2, gB3, gB4, rvB, nI_iI, i0, i1, l0_, wr_s, aup_s, and_true, true_and, and_self, eq_self, if_true, if_false, Nat.zero_le, Nat.reduceAdd, Nat.reduceLeDiff, gN_I, gN_L, gN_P, bI_0, bI_ok, z0, z1, Bool.true_eq, Bool.false_eq_true, not_true_eq_false, not_false_eq_true]
theorem r_row3_set {m q k v z : Nat} {Q : Nat → Nat} {f : Nat → Int32} (hA0 : M.2.1 348 = iI m) (hAP : ∀ i, i < m → M.2.1 (348 + 1 + 3 * i) = iI (Q i)) (hm : m ≤ 11) (hQ : ∀ i, Q i < 2147483648) (hv : v < 2147483648) (hq : y + 531 ≤ q) (hr : h q = some (aI .int 3 f)) (hf : f 0 = iI v) (hk : k ≤ m) (h1 : ∀ i, i < k → Q i < v) (h2 : k = m ∨ v ≤ Q k) (hy : y + 531 ≤ n) (hz : f 1 = iI z) (bz : 0 < z ∧ z < 2147483648) (hc : k < m ∧ Q k = v) :
    aE (d + 3) 220 [.ref y, .int (iI 348), .int (iI 3), .ref q] (mdW h y M, n, w, g) = some (.inl (some (.int (iI 1))), (mdW h y (alM M (setR 348 3 k f M.2.1)), n, w, g)) := by
  have k80 := sr3_80 (d := d) (n := n) (w := w) (g := g) (h := h) (y := y) (M := M) hA0 hAP hm hQ hv hq hr hf hk h1 h2 hy
  have rz : gI (mdW h y M q) (iI 1) = some (iI z) := by
    have x := gI_I (N := 3) (f := f) (j := 1) (by omega) (by omega) (by omega)
    rw [md_out hq, hr, x]
    exact congrArg some hz
  have c3 : ¬ (z : Int) = 0 := by omega
  have c4 := eq_true hc
  have hr2 : mdW h y M q = some (aI .int 3 f) := by rw [md_out hq, hr]
  have cd := s_acopy (h := mdW h y M) (n := n) (r := (w, g)) (s := q) (t := y + 1) (sp := 0) (dp := 348 + 1 + 3 * k) (m := 3) hr2 md_1 (by omega) (by omega) (by omega) (by omega)
  rw [md_a, show ((0 : Nat) : Int) = 0 from rfl, show ((3 : Nat) : Int) = 3 from rfl] at cd
  rw [e220, k80]
  simp (disch := omega) only [r220_80, r220_81, r220_82, r220_83, r220_163, r220_165, r220_168, r220_170, r220_172, r220_175, r220_176, r220_177, r220_179, rz, iI_eq, c3, c4, kl_n, kl_i, kl_r, kl_z, kl_l, kl_d, catS_0, catS_c, cat_i, cat_l, cat_d, cat_r, cat_n, kC_r, kC_x, Option.bind_some, Option.toList_some, Option.toList_none, List.cons_append, List.nil_append, gB0, gB1, gB2, gB3, gB4, rvB, nI_iI, i0, i1, l0_, wr_s, aup_s, and_true, true_and, and_self, eq_self, if_true, if_false, Nat.zero_le, Nat.reduceAdd, Nat.reduceLeDiff, gN_I, gN_L, gN_P, bI_0, bI_ok, z0, z1, Bool.true_eq, Bool.false_eq_true, not_true_eq_false, not_false_eq_true]
  simp (disch := omega) only [r220_216, r220_217, r220_218, r220_219, r220_222, r220_224, r220_225, r220_228, r220_229, md_0, gB1, cd, kl_n, kl_i, kl_r, kl_z, kl_l, kl_d, catS_0, catS_c, cat_i, cat_l, cat_d, cat_r, cat_n, kC_r, kC_x, Option.bind_some, Option.toList_some, Option.toList_none, List.cons_append, List.nil_append, gB0, gB1, gB2, gB3, gB4, rvB, nI_iI, i0, i1, l0_, wr_s, aup_s, and_true, true_and, and_self, eq_self, if_true, if_false, Nat.zero_le, Nat.reduceAdd, Nat.reduceLeDiff, gN_I, gN_L, gN_P, bI_0, bI_ok, z0, z1, Bool.true_eq, Bool.false_eq_true, not_true_eq_false, not_false_eq_true]
  rfl
end
