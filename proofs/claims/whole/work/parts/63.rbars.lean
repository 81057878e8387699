/-! ===== the reference: bars and beats ===== -/
/-- the meters as they lie in the row of all numbers -/
def mtA (A : Nat → Int32) (n : Nat) (P Q B : Nat → Nat) : Prop := A 348 = iI n ∧ (∀ i, i < n → A (349 + 3 * i) = iI (P i)) ∧ (∀ i, i < n → A (350 + 3 * i) = iI (Q i)) ∧ ∀ i, i < n → A (351 + 3 * i) = iI (B i)
/-- how long a bar is -/
def mbl (n : Nat) (P Q B : Nat → Nat) (v : Nat) : Nat := br Q B (lu P v n)
section
variable {d : Nat} {h : aHf} {r : Nat × Nat × Nat × Nat} {y : Nat} {M : Md} {n : Nat} {P Q B : Nat → Nat}
theorem mo_loop {v : Nat} (hA : mtA M.2.1 n P Q B) (hM : mkOk n P Q B) (hv : v < 2147483648) : ∀ k : Nat, k < n → L d 228 11 [some (.ref y), some (.int (iI v)), some (.int (iI k))] [] (mdW h y M, r) = some (.inl (some (.int (iI (349 + 3 * lu P v (k + 1) : Nat)))), (mdW h y M, r)) := by
  obtain ⟨m1, m2, m3, m4, m5, m6, m7⟩ := hM
  obtain ⟨a1, a2, a3, a4⟩ := hA
  intro k
  induction k with
  | zero =>
    intro hk
    have gp : gI (some (aI .int 385 M.2.1)) (iI ((349 + 3 * 0 : Nat) : Int)) = some (iI (P 0)) := by rw [gI_N (by omega) (by omega), a2 0 (by omega)]
    rw [m3] at gp
    have c1 : ((0 : Nat) : Int) ≤ v := by omega
    have f1 : 349 + 3 * ((0 : Nat) : Int) = ((349 + 3 * 0 : Nat) : Int) := by omega
    have e0 : lu P v (0 + 1) = 0 := by
      exact if_pos (show P 0 ≤ v by rw [m3]; exact Nat.zero_le v)
    rw [e0, r228_11]
    simp (disch := omega) only [r228_0, r228_1, r228_4, r228_7, r228_8, r228_9, r228_10, r228_12, r228_15, r228_18, r228_19, r228_20, r228_21, r228_22, r228_23, r228_24, r228_27, r228_30, r228_33, r228_36, r228_37, r228_38, r228_39, r228_40, md_0, md_1, iI_mul, iI_add, f1, gp, iI_le, c1, kl_n, kl_i, kl_r, kl_z, kl_l, kl_d, catS_0, catS_c, cat_i, cat_l, cat_d, cat_r, cat_n, kC_r, kC_x, Option.bind_some, Option.toList_some, Option.toList_none, List.cons_append, List.nil_append, gB0, gB1, gB2, gB3, gB4, rvB, nI_iI, i0, i1, l0_, wr_s, aup_s, and_true, true_and, and_self, eq_self, if_true, if_false, Nat.zero_le, Nat.reduceAdd, Nat.reduceLeDiff, gN_I, gN_L, gN_P, bI_0, bI_ok, z0, z1, Bool.true_eq, Bool.false_eq_true, not_true_eq_false, not_false_eq_true]
  | succ k ih =>
    intro hk
    have p1 := m5 (k + 1)
    have gp : gI (some (aI .int 385 M.2.1)) (iI ((349 + 3 * (k + 1) : Nat) : Int)) = some (iI (P (k + 1))) := by rw [gI_N (by omega) (by omega), a2 (k + 1) hk]
    have f1 : 349 + 3 * ((k + 1 : Nat) : Int) = ((349 + 3 * (k + 1) : Nat) : Int) := by omega
    have e1 : ((k + 1 : Nat) : Int) + -1 = (k : Int) := by omega
    rw [r228_11]
    by_cases q : P (k + 1) ≤ v
    · have c1 : ((P (k + 1) : Nat) : Int) ≤ v := by omega
      have e0 : lu P v (k + 1 + 1) = k + 1 := if_pos q
      rw [e0]
      simp (disch := omega) only [r228_0, r228_1, r228_4, r228_7, r228_8, r228_9, r228_10, r228_12, r228_15, r228_18, r228_19, r228_20, r228_21, r228_22, r228_23, r228_24, r228_27, r228_30, r228_33, r228_36, r228_37, r228_38, r228_39, r228_40, md_0, md_1, iI_mul, iI_add, f1, gp, iI_le, c1, kl_n, kl_i, kl_r, kl_z, kl_l, kl_d, catS_0, catS_c, cat_i, cat_l, cat_d, cat_r, cat_n, kC_r, kC_x, Option.bind_some, Option.toList_some, Option.toList_none, List.cons_append, List.nil_append, gB0, gB1, gB2, gB3, gB4, rvB, nI_iI, i0, i1, l0_, wr_s, aup_s, and_true, true_and, and_self, eq_self, if_true, if_false, Nat.zero_le, Nat.reduceAdd, Nat.reduceLeDiff, gN_I, gN_L, gN_P, bI_0, bI_ok, z0, z1, Bool.true_eq, Bool.false_eq_true, not_true_eq_false, not_false_eq_true]
    · have c1 : ¬ ((P (k + 1) : Nat) : Int) ≤ v := by omega
      have e0 : lu P v (k + 1 + 1) = lu P v (k + 1) := if_neg q
      have h9 := ih (by omega)
      rw [e0]
      simp (disch := omega) only [r228_0, r228_1, r228_4, r228_7, r228_8, r228_9, r228_10, r228_12, r228_15, r228_18, r228_19, r228_20, r228_21, r228_22, r228_23, r228_24, r228_27, r228_30, r228_33, r228_36, r228_37, r228_38, r228_39, r228_40, md_0, md_1, iI_mul, iI_add, f1, gp, iI_le, c1, e1, h9, kl_n, kl_i, kl_r, kl_z, kl_l, kl_d, catS_0, catS_c, cat_i, cat_l, cat_d, cat_r, cat_n, kC_r, kC_x, Option.bind_some, Option.toList_some, Option.toList_none, List.cons_append, List.nil_append, gB0, gB1, gB2, gB3, gB4, rvB, nI_iI, i0, i1, l0_, wr_s, aup_s, and_true, true_and, and_self, eq_self, if_true, if_false, Nat.zero_le, Nat.reduceAdd, Nat.reduceLeDiff, gN_I, gN_L, gN_P, bI_0, bI_ok, z0, z1, Bool.true_eq, Bool.false_eq_true, not_true_eq_false, not_false_eq_true]
theorem r_meterOf {v : Nat} (hA : mtA M.2.1 n P Q B) (hM : mkOk n P Q B) (hv : v < 2147483648) : aE (d + 1) 228 [.ref y, .int (iI v)] (mdW h y M, r) = some (.inl (some (.int (iI (349 + 3 * lu P v n : Nat)))), (mdW h y M, r)) := by
  have g0 : gI (some (aI .int 385 M.2.1)) (iI 348) = some (iI n) := by
    have e := gI_N (N := 385) (f := M.2.1) (k := 348) (by omega) (by omega)
    rw [hA.1] at e
    exact e
  have m1 := hM.1
  have m2 := hM.2.1
  have hl := mo_loop (d := d) (h := h) (r := r) (y := y) hA hM hv (n - 1) (by omega)
  rw [show n - 1 + 1 = n by omega] at hl
  have e1 : (n : Int) - 1 = ((n - 1 : Nat) : Int) := by omega
  simp (disch := omega) only [e228, r228_0, r228_1, r228_4, r228_7, r228_8, r228_9, r228_10, r228_12, r228_15, r228_18, r228_19, r228_20, r228_21, r228_22, r228_23, r228_24, r228_27, r228_30, r228_33, r228_36, r228_37, r228_38, r228_39, r228_40, md_0, md_1, g0, iI_sub, e1, hl, kl_n, kl_i, kl_r, kl_z, kl_l, kl_d, catS_0, catS_c, cat_i, cat_l, cat_d, cat_r, cat_n, kC_r, kC_x, Option.bind_some, Option.toList_some, Option.toList_none, List.cons_append, List.nil_append, gB0, gB1, gB2, gB3, gB4, rvB, nI_iI, i0, i1, l0_, wr_s, aup_s, and_true, true_and, and_self, eq_self, if_true, if_false, Nat.zero_le, Nat.reduceAdd, Nat.reduceLeDiff, gN_I, gN_L, gN_P, bI_0, bI_ok, z0, z1, Bool.true_eq, Bool.false_eq_true, not_true_eq_false, not_false_eq_true]
/-- all meters have a beat -/
abbrev mtOk (n : Nat) (Q B : Nat → Nat) : Prop := ∀ i, i < n → 0 < Q i ∧ Q i ≤ 16 ∧ 0 < B i ∧ B i ≤ 16
theorem r_beatLength {v : Nat} (hA : mtA M.2.1 n P Q B) (hM : mkOk n P Q B) (hB : mtOk n Q B) (hv : v < 2147483648) : aE (d + 2) 229 [.ref y, .int (iI v)] (mdW h y M, r) = some (.inl (some (.int (iI (bl B (lu P v n))))), (mdW h y M, r)) := by
  have m1 := hM.1
  have m2 := hM.2.1
  have hl := lu_lt P v m1
  have hb := hB (lu P v n) hl
  have mo := r_meterOf (d := d) (h := h) (r := r) (y := y) hA hM hv
  generalize lu P v n = j at hl hb mo
  have f1 : ((349 + 3 * j : Nat) : Int) + 2 = ((351 + 3 * j : Nat) : Int) := by omega
  have gp : gI (some (aI .int 385 M.2.1)) (iI ((351 + 3 * j : Nat) : Int)) = some (iI (B j)) := by rw [gI_N (by omega) (by omega), hA.2.2.2 j hl]
  have f0 : ¬ (B j : Int) = 0 := by omega
  have e1 : (384 : Int) / (B j : Int) = ((384 / B j : Nat) : Int) := cdiv 384 (B j)
  have e2 : bl B j = 384 / B j := by
    unfold bl
    rw [if_pos hb.2.2.1]
    have : 1 ≤ 384 / B j := (Nat.le_div_iff_mul_le hb.2.2.1).mpr (by omega)
    omega
  rw [e2]
  simp (disch := omega) only [e229, r229_0, r229_3, r229_4, r229_7, r229_8, r229_9, r229_12, r229_13, r229_14, r229_15, r229_16, md_0, md_1, mo, iI_add, f1, gp, iI_eq, f0, iI_div, e1, kl_n, kl_i, kl_r, kl_z, kl_l, kl_d, catS_0, catS_c, cat_i, cat_l, cat_d, cat_r, cat_n, kC_r, kC_x, Option.bind_some, Option.toList_some, Option.toList_none, List.cons_append, List.nil_append, gB0, gB1, gB2, gB3, gB4, rvB, nI_iI, i0, i1, l0_, wr_s, aup_s, and_true, true_and, and_self, eq_self, if_true, if_false, Nat.zero_le, Nat.reduceAdd, Nat.reduceLeDiff, gN_I, gN_L, gN_P, bI_0, bI_ok, z0, z1, Bool.true_eq, Bool.false_eq_true, not_true_eq_false, not_false_eq_true]
theorem r_barLength {v : Nat} (hA : mtA M.2.1 n P Q B) (hM : mkOk n P Q B) (hB : mtOk n Q B) (hv : v < 2147483648) : aE (d + 3) 230 [.ref y, .int (iI v)] (mdW h y M, r) = some (.inl (some (.int (iI (mbl n P Q B v)))), (mdW h y M, r)) := by
  have m1 := hM.1
  have m2 := hM.2.1
  have hl := lu_lt P v m1
  have hb := hB (lu P v n) hl
  have mo := r_meterOf (d := d + 1) (h := h) (r := r) (y := y) hA hM hv
  have bb := r_beatLength (d := d) (h := h) (r := r) (y := y) hA hM hB hv
  unfold mbl
  generalize lu P v n = j at hl hb mo bb
  have f1 : ((349 + 3 * j : Nat) : Int) + 1 = ((350 + 3 * j : Nat) : Int) := by omega
  have gp : gI (some (aI .int 385 M.2.1)) (iI ((350 + 3 * j : Nat) : Int)) = some (iI (Q j)) := by rw [gI_N (by omega) (by omega), hA.2.2.1 j hl]
  have e2 : (Q j : Int) * (bl B j : Int) = ((br Q B j : Nat) : Int) := by
    unfold br
    rw [show max 1 (Q j) = Q j by omega]
    exact (Int.natCast_mul _ _).symm
  simp (disch := omega) only [e230, r230_0, r230_1, r230_4, r230_5, r230_6, r230_9, r230_10, r230_11, r230_12, r230_13, r230_14, r230_17, r230_18, md_0, md_1, mo, iI_add, f1, gp, bb, iI_mul, e2, kl_n, kl_i, kl_r, kl_z, kl_l, kl_d, catS_0, catS_c, cat_i, cat_l, cat_d, cat_r, cat_n, kC_r, kC_x, Option.bind_some, Option.toList_some, Option.toList_none, List.cons_append, List.nil_append, gB0, gB1, gB2, gB3, gB4, rvB, nI_iI, i0, i1, l0_, wr_s, aup_s, and_true, true_and, and_self, eq_self, if_true, if_false, Nat.zero_le, Nat.reduceAdd, Nat.reduceLeDiff, gN_I, gN_L, gN_P, bI_0, bI_ok, z0, z1, Bool.true_eq, Bool.false_eq_true, not_true_eq_false, not_false_eq_true]
theorem tob_loop {v : Nat} (hA : mtA M.2.1 n P Q B) (hM : mkOk n P Q B) (hB : mtOk n Q B) (hv : v < 2147483648) : ∀ m k : Nat, k + m = v → L (d + 3) 231 4 [some (.ref y), some (.int (iI v)), some (.int (iI (sm (mbl n P Q B) k))), some (.int (iI k))] [] (mdW h y M, r) = some (.inl (some (.int (iI (sm (mbl n P Q B) v)))), (mdW h y M, r)) := by
  intro m
  induction m with
  | zero =>
    intro k hk
    obtain rfl : k = v := by omega
    have c1 : (k : Int) ≤ k := by omega
    rw [r231_4]
    simp (disch := omega) only [r231_0, r231_1, r231_2, r231_3, r231_5, r231_6, r231_9, r231_10, r231_11, r231_12, r231_15, r231_16, r231_17, r231_20, r231_23, r231_24, iI_le, c1, kl_n, kl_i, kl_r, kl_z, kl_l, kl_d, catS_0, catS_c, cat_i, cat_l, cat_d, cat_r, cat_n, kC_r, kC_x, Option.bind_some, Option.toList_some, Option.toList_none, List.cons_append, List.nil_append, gB0, gB1, gB2, gB3, gB4, rvB, nI_iI, i0, i1, l0_, wr_s, aup_s, and_true, true_and, and_self, eq_self, if_true, if_false, Nat.zero_le, Nat.reduceAdd, Nat.reduceLeDiff, gN_I, gN_L, gN_P, bI_0, bI_ok, z0, z1, Bool.true_eq, Bool.false_eq_true, not_true_eq_false, not_false_eq_true]
  | succ m ih =>
    intro k hk
    have c1 : ¬ (v : Int) ≤ k := by omega
    have e1 : (k : Int) + 1 = ((k + 1 : Nat) : Int) := by omega
    have e2 : ((sm (mbl n P Q B) k : Nat) : Int) + (mbl n P Q B k : Int) = ((sm (mbl n P Q B) (k + 1) : Nat) : Int) := (Int.natCast_add _ _).symm
    rw [r231_4]
    simp (disch := omega) only [r231_0, r231_1, r231_2, r231_3, r231_5, r231_6, r231_9, r231_10, r231_11, r231_12, r231_15, r231_16, r231_17, r231_20, r231_23, r231_24, iI_le, c1, md_0, r_barLength hA hM hB (show k < 2147483648 by omega), iI_add, e2, e1, ih (k + 1) (by omega), kl_n, kl_i, kl_r, kl_z, kl_l, kl_d, catS_0, catS_c, cat_i, cat_l, cat_d, cat_r, cat_n, kC_r, kC_x, Option.bind_some, Option.toList_some, Option.toList_none, List.cons_append, List.nil_append, gB0, gB1, gB2, gB3, gB4, rvB, nI_iI, i0, i1, l0_, wr_s, aup_s, and_true, true_and, and_self, eq_self, if_true, if_false, Nat.zero_le, Nat.reduceAdd, Nat.reduceLeDiff, gN_I, gN_L, gN_P, bI_0, bI_ok, z0, z1, Bool.true_eq, Bool.false_eq_true, not_true_eq_false, not_false_eq_true]
theorem r_tickOfBarNow {v : Nat} (hA : mtA M.2.1 n P Q B) (hM : mkOk n P Q B) (hB : mtOk n Q B) (hv : v < 2147483648) : aE (d + 4) 231 [.ref y, .int (iI v)] (mdW h y M, r) = some (.inl (some (.int (iI (sm (mbl n P Q B) v)))), (mdW h y M, r)) := by
  have hl := tob_loop (d := d) (h := h) (r := r) (y := y) hA hM hB hv v 0 (by omega)
  rw [show ((0 : Nat) : Int) = 0 from rfl, show ((sm (mbl n P Q B) 0 : Nat) : Int) = 0 from rfl] at hl
  simp only [e231, r231_0, r231_1, r231_2, r231_3, r231_5, r231_6, r231_9, r231_10, r231_11, r231_12, r231_15, r231_16, r231_17, r231_20, r231_23, r231_24, hl, kl_n, kl_i, kl_r, kl_z, kl_l, kl_d, catS_0, catS_c, cat_i, cat_l, cat_d, cat_r, cat_n, kC_r, kC_x, Option.bind_some, Option.toList_some, Option.toList_none, List.cons_append, List.nil_append, gB0, gB1, gB2, gB3, gB4, rvB, nI_iI, i0, i1, l0_, wr_s, aup_s, and_true, true_and, and_self, eq_self, if_true, if_false, Nat.zero_le, Nat.reduceAdd, Nat.reduceLeDiff, gN_I, gN_L, gN_P, bI_0, bI_ok, z0, z1, Bool.true_eq, Bool.false_eq_true, not_true_eq_false, not_false_eq_true]
theorem mbl_pos (v : Nat) : 0 < mbl n P Q B v := br_pos Q B _
theorem bn_loop {t : Nat} (hA : mtA M.2.1 n P Q B) (hM : mkOk n P Q B) (hB : mtOk n Q B) (hQ : ∀ i, Q i ≤ 16) (ht : t ≤ 99999) : ∀ m b : Nat, t < sm (mbl n P Q B) (b + 1) + m → sm (mbl n P Q B) b ≤ t → b ≤ 99999 →
    ∃ b', sm (mbl n P Q B) b' ≤ t ∧ t < sm (mbl n P Q B) (b' + 1) ∧ L (d + 3) 232 8 [some (.ref y), some (.int (iI t)), some (.int (iI b)), some (.int (iI (sm (mbl n P Q B) (b + 1) : Nat)))] [] (mdW h y M, r) = some (.inl (some (.int (iI b'))), (mdW h y M, r)) := by
  have hbr : ∀ v, mbl n P Q B v ≤ 6144 := fun v => br_le B _ (hQ _)
  have hb : ∀ b, b ≤ sm (mbl n P Q B) b := by
    intro b
    induction b with
    | zero => exact Nat.le_refl 0
    | succ b ih =>
      have := mbl_pos (n := n) (P := P) (Q := Q) (B := B) b
      show b + 1 ≤ sm (mbl n P Q B) b + mbl n P Q B b
      omega
  intro m
  induction m with
  | zero =>
    intro b h1 h2 h3
    refine ⟨b, h2, by omega, ?_⟩
    have e3 : sm (mbl n P Q B) (b + 1) = sm (mbl n P Q B) b + mbl n P Q B b := rfl
    have h4 := hbr b
    have c1 : (t : Int) < (sm (mbl n P Q B) (b + 1) : Nat) := by omega
    rw [r232_8]
    simp (disch := omega) only [r232_0, r232_1, r232_2, r232_3, r232_4, r232_7, r232_9, r232_10, r232_13, r232_16, r232_17, r232_18, r232_19, r232_22, r232_23, r232_24, r232_27, r232_28, iI_lt, c1, kl_n, kl_i, kl_r, kl_z, kl_l, kl_d, catS_0, catS_c, cat_i, cat_l, cat_d, cat_r, cat_n, kC_r, kC_x, Option.bind_some, Option.toList_some, Option.toList_none, List.cons_append, List.nil_append, gB0, gB1, gB2, gB3, gB4, rvB, nI_iI, i0, i1, l0_, wr_s, aup_s, and_true, true_and, and_self, eq_self, if_true, if_false, Nat.zero_le, Nat.reduceAdd, Nat.reduceLeDiff, gN_I, gN_L, gN_P, bI_0, bI_ok, z0, z1, Bool.true_eq, Bool.false_eq_true, not_true_eq_false, not_false_eq_true]
  | succ m ih =>
    intro b h1 h2 h3
    have e3 : sm (mbl n P Q B) (b + 1) = sm (mbl n P Q B) b + mbl n P Q B b := rfl
    have h4 := hbr b
    have h5 := hb b
    by_cases q : sm (mbl n P Q B) (b + 1) ≤ t
    · have c1 : ¬ (t : Int) < (sm (mbl n P Q B) (b + 1) : Nat) := by omega
      have h6 := hb (b + 1)
      have h7 := mbl_pos (n := n) (P := P) (Q := Q) (B := B) (b + 1)
      have e4 : sm (mbl n P Q B) (b + 1 + 1) = sm (mbl n P Q B) (b + 1) + mbl n P Q B (b + 1) := rfl
      obtain ⟨b', z1, z2, z3⟩ := ih (b + 1) (by omega) q (by omega)
      refine ⟨b', z1, z2, ?_⟩
      have e1 : (b : Int) + 1 = ((b + 1 : Nat) : Int) := by omega
      have e2 : ((sm (mbl n P Q B) (b + 1) : Nat) : Int) + (mbl n P Q B (b + 1) : Int) = ((sm (mbl n P Q B) (b + 1 + 1) : Nat) : Int) := (Int.natCast_add _ _).symm
      rw [r232_8]
      simp (disch := omega) only [r232_0, r232_1, r232_2, r232_3, r232_4, r232_7, r232_9, r232_10, r232_13, r232_16, r232_17, r232_18, r232_19, r232_22, r232_23, r232_24, r232_27, r232_28, iI_lt, c1, iI_add, e1, md_0, r_barLength hA hM hB (show b + 1 < 2147483648 by omega), e2, z3, kl_n, kl_i, kl_r, kl_z, kl_l, kl_d, catS_0, catS_c, cat_i, cat_l, cat_d, cat_r, cat_n, kC_r, kC_x, Option.bind_some, Option.toList_some, Option.toList_none, List.cons_append, List.nil_append, gB0, gB1, gB2, gB3, gB4, rvB, nI_iI, i0, i1, l0_, wr_s, aup_s, and_true, true_and, and_self, eq_self, if_true, if_false, Nat.zero_le, Nat.reduceAdd, Nat.reduceLeDiff, gN_I, gN_L, gN_P, bI_0, bI_ok, z0, z1, Bool.true_eq, Bool.false_eq_true, not_true_eq_false, not_false_eq_true]
    · refine ⟨b, h2, by omega, ?_⟩
      have c1 : (t : Int) < (sm (mbl n P Q B) (b + 1) : Nat) := by omega
      rw [r232_8]
      simp (disch := omega) only [r232_0, r232_1, r232_2, r232_3, r232_4, r232_7, r232_9, r232_10, r232_13, r232_16, r232_17, r232_18, r232_19, r232_22, r232_23, r232_24, r232_27, r232_28, iI_lt, c1, kl_n, kl_i, kl_r, kl_z, kl_l, kl_d, catS_0, catS_c, cat_i, cat_l, cat_d, cat_r, cat_n, kC_r, kC_x, Option.bind_some, Option.toList_some, Option.toList_none, List.cons_append, List.nil_append, gB0, gB1, gB2, gB3, gB4, rvB, nI_iI, i0, i1, l0_, wr_s, aup_s, and_true, true_and, and_self, eq_self, if_true, if_false, Nat.zero_le, Nat.reduceAdd, Nat.reduceLeDiff, gN_I, gN_L, gN_P, bI_0, bI_ok, z0, z1, Bool.true_eq, Bool.false_eq_true, not_true_eq_false, not_false_eq_true]
theorem r_barNow {t : Nat} (hA : mtA M.2.1 n P Q B) (hM : mkOk n P Q B) (hB : mtOk n Q B) (hQ : ∀ i, Q i ≤ 16) (ht : t ≤ 99999) : ∃ b, sm (mbl n P Q B) b ≤ t ∧ t < sm (mbl n P Q B) (b + 1) ∧ aE (d + 4) 232 [.ref y, .int (iI t)] (mdW h y M, r) = some (.inl (some (.int (iI b))), (mdW h y M, r)) := by
  obtain ⟨b, z1, z2, z3⟩ := bn_loop (d := d) (h := h) (r := r) (y := y) hA hM hB hQ ht (t + 1) 0 (by omega) (Nat.zero_le t) (by omega)
  refine ⟨b, z1, z2, ?_⟩
  have e2 : sm (mbl n P Q B) (0 + 1) = mbl n P Q B 0 := Nat.zero_add _
  rw [e2, show ((0 : Nat) : Int) = 0 from rfl] at z3
  have b0 := r_barLength (d := d) (h := h) (r := r) (y := y) hA hM hB (v := 0) (by omega)
  rw [show ((0 : Nat) : Int) = 0 from rfl] at b0
  simp (disch := omega) only [e232, r232_0, r232_1, r232_2, r232_3, r232_4, r232_7, r232_9, r232_10, r232_13, r232_16, r232_17, r232_18, r232_19, r232_22, r232_23, r232_24, r232_27, r232_28, md_0, b0, z3, kl_n, kl_i, kl_r, kl_z, kl_l, kl_d, catS_0, catS_c, cat_i, cat_l, cat_d, cat_r, cat_n, kC_r, kC_x, Option.bind_some, Option.toList_some, Option.toList_none, List.cons_append, List.nil_append, gB0, gB1, gB2, gB3, gB4, rvB, nI_iI, i0, i1, l0_, wr_s, aup_s, and_true, true_and, and_self, eq_self, if_true, if_false, Nat.zero_le, Nat.reduceAdd, Nat.reduceLeDiff, gN_I, gN_L, gN_P, bI_0, bI_ok, z0, z1, Bool.true_eq, Bool.false_eq_true, not_true_eq_false, not_false_eq_true]
end
