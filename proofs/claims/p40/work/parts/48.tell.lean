/-! ===== what the events tell ===== -/
def onI (c : Nat) : Int := if c / 131072 % 2 = 1 then 1 else -1
def ctI (C : Nat → Nat) (t : Nat) : Nat → Int
  | 0 => 0
  | k + 1 => ctI C t k + if C k / 262144 ≤ t then onI (C k) else 0
def snI (C : Nat → Nat) : Nat → Int
  | 0 => 0
  | k + 1 => snI C k + onI (C k)
def gtI (C : Nat → Nat) : Nat → Int
  | 0 => 0
  | k + 1 => max (gtI C k) (snI C (k + 1))
def ltN (C : Nat → Nat) : Nat → Nat
  | 0 => 0
  | k + 1 => max (ltN C k) (C k / 262144)
theorem onI_b (c : Nat) : -1 ≤ onI c ∧ onI c ≤ 1 := by
  unfold onI
  split <;> omega
theorem ctI_b (C : Nat → Nat) (t : Nat) : ∀ k : Nat, -(k : Int) ≤ ctI C t k ∧ ctI C t k ≤ k
  | 0 => ⟨by show -((0 : Nat) : Int) ≤ 0; omega, by show (0 : Int) ≤ ((0 : Nat) : Int); omega⟩
  | k + 1 => by
    have h1 := ctI_b C t k
    have h2 := onI_b (C k)
    unfold ctI
    split <;> omega
theorem snI_b (C : Nat → Nat) : ∀ k : Nat, -(k : Int) ≤ snI C k ∧ snI C k ≤ k
  | 0 => ⟨by show -((0 : Nat) : Int) ≤ 0; omega, by show (0 : Int) ≤ ((0 : Nat) : Int); omega⟩
  | k + 1 => by
    have h1 := snI_b C k
    have h2 := onI_b (C k)
    unfold snI
    omega
theorem gtI_b (C : Nat → Nat) : ∀ k : Nat, 0 ≤ gtI C k ∧ gtI C k ≤ k
  | 0 => ⟨by show (0 : Int) ≤ 0; omega, by show (0 : Int) ≤ ((0 : Nat) : Int); omega⟩
  | k + 1 => by
    have h1 := gtI_b C k
    have h2 := snI_b C (k + 1)
    unfold gtI
    omega
theorem ltN_b {C : Nat → Nat} (hC : ∀ i, vOk (C i)) : ∀ k, ltN C k < 4194304
  | 0 => by show 0 < 4194304; omega
  | k + 1 => by
    have h1 := ltN_b hC k
    have h2 := hC k
    unfold vOk at h2
    unfold ltN
    omega
section
variable {d : Nat} {h : aHf} {r : Nat × Nat × Nat × Nat} {x : Nat} {W : Dk}
theorem ct_loop {t : Nat} (ht : t < 2147483648) (hN : W.2.2.2.1.1 ≤ 960) (hC : ∀ i, vOk (W.2.2.2.1.2.1 i)) : ∀ m i : Nat, i + m = W.2.2.2.1.1 → L (d + 2) 162 4 [some (.ref (x + 401)), some (.int (iI t)), some (.int (iI (ctI W.2.2.2.1.2.1 t i))), some (.int (iI i))] [] (dkW h x W, r) =
    some (.inl (some (.int (iI (ctI W.2.2.2.1.2.1 t W.2.2.2.1.1)))), (dkW h x W, r)) := by
  intro m
  induction m with
  | zero =>
    intro i hi
    obtain rfl : i = W.2.2.2.1.1 := by omega
    have c1 : (W.2.2.2.1.1 : Int) ≤ W.2.2.2.1.1 := by omega
    rw [r162_4]
    simp (disch := omega) only [r162_0, r162_1, r162_2, r162_3, r162_5, r162_6, r162_9, r162_12, r162_13, r162_14, r162_17, r162_20, r162_21, r162_24, r162_25, r162_26, r162_27, r162_30, r162_33, r162_36, r162_37, r162_40, r162_41, r162_42, r162_43, r162_46, r162_49, r162_50, dk_r, iI_le, c1, kl_n, kl_i, kl_r, kl_z, kl_l, kl_d, catS_0, catS_c, cat_i, cat_l, cat_d, cat_r, cat_n, kC_r, kC_x, Option.bind_some, Option.toList_some, Option.toList_none, List.cons_append, List.nil_append, gB0, gB1, gB2, gB3, gB4, rvB, nI_iI, i0, i1, l0_, wr_s, aup_s, and_true, true_and, and_self, eq_self, if_true, if_false, Nat.zero_le, Nat.reduceAdd, Nat.reduceLeDiff, gN_I, gN_L, gN_P, bI_0, bI_ok, z0, z1, Bool.true_eq, Bool.false_eq_true, not_true_eq_false, not_false_eq_true]
  | succ m ih =>
    intro i hi
    have c1 : ¬ (W.2.2.2.1.1 : Int) ≤ i := by omega
    have e1 : (i : Int) + 1 = ((i + 1 : Nat) : Int) := by omega
    have hc := hC i
    have hv := hC i
    unfold vOk at hv
    have hb := ctI_b W.2.2.2.1.2.1 t i
    have h9 := ih (i + 1) (by omega)
    have et := s_evTick (d := d + 1) (h := dkW h x W) (r := r) hc
    have eo := s_evOn (d := d + 1) (h := dkW h x W) (r := r) hc
    have hs : ctI W.2.2.2.1.2.1 t (i + 1) = ctI W.2.2.2.1.2.1 t i + if W.2.2.2.1.2.1 i / 262144 ≤ t then onI (W.2.2.2.1.2.1 i) else 0 := rfl
    rw [hs] at h9
    unfold onI at h9
    rw [r162_4]
    by_cases q : W.2.2.2.1.2.1 i / 262144 ≤ t
    · have q1 : ¬ (t : Int) < ((W.2.2.2.1.2.1 i / 262144 : Nat) : Int) := by omega
      rw [if_pos q] at h9
      by_cases q2 : W.2.2.2.1.2.1 i / 131072 % 2 = 1
      · rw [if_pos q2] at h9
        simp (disch := omega) only [r162_0, r162_1, r162_2, r162_3, r162_5, r162_6, r162_9, r162_12, r162_13, r162_14, r162_17, r162_20, r162_21, r162_24, r162_25, r162_26, r162_27, r162_30, r162_33, r162_36, r162_37, r162_40, r162_41, r162_42, r162_43, r162_46, r162_49, r162_50, dk_r, iI_le, c1, s_evAt, et, eo, iI_lt, q1, q2, iI_add, e1, h9, kl_n, kl_i, kl_r, kl_z, kl_l, kl_d, catS_0, catS_c, cat_i, cat_l, cat_d, cat_r, cat_n, kC_r, kC_x, Option.bind_some, Option.toList_some, Option.toList_none, List.cons_append, List.nil_append, gB0, gB1, gB2, gB3, gB4, rvB, nI_iI, i0, i1, l0_, wr_s, aup_s, and_true, true_and, and_self, eq_self, if_true, if_false, Nat.zero_le, Nat.reduceAdd, Nat.reduceLeDiff, gN_I, gN_L, gN_P, bI_0, bI_ok, z0, z1, Bool.true_eq, Bool.false_eq_true, not_true_eq_false, not_false_eq_true]
      · rw [if_neg q2] at h9
        simp (disch := omega) only [r162_0, r162_1, r162_2, r162_3, r162_5, r162_6, r162_9, r162_12, r162_13, r162_14, r162_17, r162_20, r162_21, r162_24, r162_25, r162_26, r162_27, r162_30, r162_33, r162_36, r162_37, r162_40, r162_41, r162_42, r162_43, r162_46, r162_49, r162_50, dk_r, iI_le, c1, s_evAt, et, eo, iI_lt, q1, q2, iI_add, e1, h9, kl_n, kl_i, kl_r, kl_z, kl_l, kl_d, catS_0, catS_c, cat_i, cat_l, cat_d, cat_r, cat_n, kC_r, kC_x, Option.bind_some, Option.toList_some, Option.toList_none, List.cons_append, List.nil_append, gB0, gB1, gB2, gB3, gB4, rvB, nI_iI, i0, i1, l0_, wr_s, aup_s, and_true, true_and, and_self, eq_self, if_true, if_false, Nat.zero_le, Nat.reduceAdd, Nat.reduceLeDiff, gN_I, gN_L, gN_P, bI_0, bI_ok, z0, z1, Bool.true_eq, Bool.false_eq_true, not_true_eq_false, not_false_eq_true]
    · have q1 : (t : Int) < ((W.2.2.2.1.2.1 i / 262144 : Nat) : Int) := by omega
      rw [if_neg q, Int.add_zero] at h9
      simp (disch := omega) only [r162_0, r162_1, r162_2, r162_3, r162_5, r162_6, r162_9, r162_12, r162_13, r162_14, r162_17, r162_20, r162_21, r162_24, r162_25, r162_26, r162_27, r162_30, r162_33, r162_36, r162_37, r162_40, r162_41, r162_42, r162_43, r162_46, r162_49, r162_50, dk_r, iI_le, c1, s_evAt, et, iI_lt, q1, iI_add, e1, h9, kl_n, kl_i, kl_r, kl_z, kl_l, kl_d, catS_0, catS_c, cat_i, cat_l, cat_d, cat_r, cat_n, kC_r, kC_x, Option.bind_some, Option.toList_some, Option.toList_none, List.cons_append, List.nil_append, gB0, gB1, gB2, gB3, gB4, rvB, nI_iI, i0, i1, l0_, wr_s, aup_s, and_true, true_and, and_self, eq_self, if_true, if_false, Nat.zero_le, Nat.reduceAdd, Nat.reduceLeDiff, gN_I, gN_L, gN_P, bI_0, bI_ok, z0, z1, Bool.true_eq, Bool.false_eq_true, not_true_eq_false, not_false_eq_true]
theorem s_countAt {t : Nat} (ht : t < 2147483648) (hN : W.2.2.2.1.1 ≤ 960) (hC : ∀ i, vOk (W.2.2.2.1.2.1 i)) : aE (d + 3) 162 [.ref (x + 401), .int (iI t)] (dkW h x W, r) =
    some (.inl (some (.int (iI (ctI W.2.2.2.1.2.1 t W.2.2.2.1.1)))), (dkW h x W, r)) := by
  have hl := ct_loop (d := d) (h := h) (r := r) (x := x) ht hN hC W.2.2.2.1.1 0 (by omega)
  rw [show ((0 : Nat) : Int) = 0 from rfl, show ctI W.2.2.2.1.2.1 t 0 = 0 from rfl] at hl
  simp only [e162, r162_0, r162_1, r162_2, r162_3, r162_5, r162_6, r162_9, r162_12, r162_13, r162_14, r162_17, r162_20, r162_21, r162_24, r162_25, r162_26, r162_27, r162_30, r162_33, r162_36, r162_37, r162_40, r162_41, r162_42, r162_43, r162_46, r162_49, r162_50, hl, kl_n, kl_i, kl_r, kl_z, kl_l, kl_d, catS_0, catS_c, cat_i, cat_l, cat_d, cat_r, cat_n, kC_r, kC_x, Option.bind_some, Option.toList_some, Option.toList_none, List.cons_append, List.nil_append, gB0, gB1, gB2, gB3, gB4, rvB, nI_iI, i0, i1, l0_, wr_s, aup_s, and_true, true_and, and_self, eq_self, if_true, if_false, Nat.zero_le, Nat.reduceAdd, Nat.reduceLeDiff, gN_I, gN_L, gN_P, bI_0, bI_ok, z0, z1, Bool.true_eq, Bool.false_eq_true, not_true_eq_false, not_false_eq_true]
theorem gt_loop (hN : W.2.2.2.1.1 ≤ 960) (hC : ∀ i, vOk (W.2.2.2.1.2.1 i)) : ∀ m i : Nat, i + m = W.2.2.2.1.1 → L (d + 2) 163 6 [some (.ref (x + 401)), some (.int (iI (snI W.2.2.2.1.2.1 i))), some (.int (iI (gtI W.2.2.2.1.2.1 i))), some (.int (iI i))] [] (dkW h x W, r) =
    some (.inl (some (.int (iI (gtI W.2.2.2.1.2.1 W.2.2.2.1.1)))), (dkW h x W, r)) := by
  intro m
  induction m with
  | zero =>
    intro i hi
    obtain rfl : i = W.2.2.2.1.1 := by omega
    have c1 : (W.2.2.2.1.1 : Int) ≤ W.2.2.2.1.1 := by omega
    rw [r163_6]
    simp (disch := omega) only [r163_0, r163_1, r163_2, r163_3, r163_4, r163_5, r163_7, r163_8, r163_11, r163_14, r163_15, r163_16, r163_17, r163_20, r163_23, r163_26, r163_27, r163_30, r163_31, r163_32, r163_33, r163_34, r163_35, r163_38, r163_39, r163_42, r163_45, r163_46, dk_r, iI_le, c1, kl_n, kl_i, kl_r, kl_z, kl_l, kl_d, catS_0, catS_c, cat_i, cat_l, cat_d, cat_r, cat_n, kC_r, kC_x, Option.bind_some, Option.toList_some, Option.toList_none, List.cons_append, List.nil_append, gB0, gB1, gB2, gB3, gB4, rvB, nI_iI, i0, i1, l0_, wr_s, aup_s, and_true, true_and, and_self, eq_self, if_true, if_false, Nat.zero_le, Nat.reduceAdd, Nat.reduceLeDiff, gN_I, gN_L, gN_P, bI_0, bI_ok, z0, z1, Bool.true_eq, Bool.false_eq_true, not_true_eq_false, not_false_eq_true]
  | succ m ih =>
    intro i hi
    have c1 : ¬ (W.2.2.2.1.1 : Int) ≤ i := by omega
    have e1 : (i : Int) + 1 = ((i + 1 : Nat) : Int) := by omega
    have hc := hC i
    have hb := snI_b W.2.2.2.1.2.1 (i + 1)
    have hb2 := gtI_b W.2.2.2.1.2.1 i
    have h9 := ih (i + 1) (by omega)
    have eo := s_evOn (d := d + 1) (h := dkW h x W) (r := r) hc
    have mx := s_max (d := d + 1) (h := dkW h x W) (r := r) (a := gtI W.2.2.2.1.2.1 i) (b := snI W.2.2.2.1.2.1 (i + 1)) (by omega) (by omega) (by omega) (by omega)
    have hg : max (gtI W.2.2.2.1.2.1 i) (snI W.2.2.2.1.2.1 (i + 1)) = gtI W.2.2.2.1.2.1 (i + 1) := rfl
    rw [hg] at mx
    have hs : snI W.2.2.2.1.2.1 i + onI (W.2.2.2.1.2.1 i) = snI W.2.2.2.1.2.1 (i + 1) := rfl
    unfold onI at hs
    rw [r163_6]
    by_cases q2 : W.2.2.2.1.2.1 i / 131072 % 2 = 1
    · rw [if_pos q2] at hs
      simp (disch := omega) only [r163_0, r163_1, r163_2, r163_3, r163_4, r163_5, r163_7, r163_8, r163_11, r163_14, r163_15, r163_16, r163_17, r163_20, r163_23, r163_26, r163_27, r163_30, r163_31, r163_32, r163_33, r163_34, r163_35, r163_38, r163_39, r163_42, r163_45, r163_46, dk_r, iI_le, c1, s_evAt, eo, q2, iI_add, hs, mx, e1, h9, kl_n, kl_i, kl_r, kl_z, kl_l, kl_d, catS_0, catS_c, cat_i, cat_l, cat_d, cat_r, cat_n, kC_r, kC_x, Option.bind_some, Option.toList_some, Option.toList_none, List.cons_append, List.nil_append, gB0, gB1, gB2, gB3, gB4, rvB, nI_iI, i0, i1, l0_, wr_s, aup_s, and_true, true_and, and_self, eq_self, if_true, if_false, Nat.zero_le, Nat.reduceAdd, Nat.reduceLeDiff, gN_I, gN_L, gN_P, bI_0, bI_ok, z0, z1, Bool.true_eq, Bool.false_eq_true, not_true_eq_false, not_false_eq_true]
    · rw [if_neg q2] at hs
      simp (disch := omega) only [r163_0, r163_1, r163_2, r163_3, r163_4, r163_5, r163_7, r163_8, r163_11, r163_14, r163_15, r163_16, r163_17, r163_20, r163_23, r163_26, r163_27, r163_30, r163_31, r163_32, r163_33, r163_34, r163_35, r163_38, r163_39, r163_42, r163_45, r163_46, dk_r, iI_le, c1, s_evAt, eo, q2, iI_add, hs, mx, e1, h9, kl_n, kl_i, kl_r, kl_z, kl_l, kl_d, catS_0, catS_c, cat_i, cat_l, cat_d, cat_r, cat_n, kC_r, kC_x, Option.bind_some, Option.toList_some, Option.toList_none, List.cons_append, List.nil_append, gB0, gB1, gB2, gB3, gB4, rvB, nI_iI, i0, i1, l0_, wr_s, aup_s, and_true, true_and, and_self, eq_self, if_true, if_false, Nat.zero_le, Nat.reduceAdd, Nat.reduceLeDiff, gN_I, gN_L, gN_P, bI_0, bI_ok, z0, z1, Bool.true_eq, Bool.false_eq_true, not_true_eq_false, not_false_eq_true]
theorem s_greatest (hN : W.2.2.2.1.1 ≤ 960) (hC : ∀ i, vOk (W.2.2.2.1.2.1 i)) : aE (d + 3) 163 [.ref (x + 401)] (dkW h x W, r) =
    some (.inl (some (.int (iI (gtI W.2.2.2.1.2.1 W.2.2.2.1.1)))), (dkW h x W, r)) := by
  have hl := gt_loop (d := d) (h := h) (r := r) (x := x) hN hC W.2.2.2.1.1 0 (by omega)
  rw [show ((0 : Nat) : Int) = 0 from rfl, show snI W.2.2.2.1.2.1 0 = 0 from rfl, show gtI W.2.2.2.1.2.1 0 = 0 from rfl] at hl
  simp only [e163, r163_0, r163_1, r163_2, r163_3, r163_4, r163_5, r163_7, r163_8, r163_11, r163_14, r163_15, r163_16, r163_17, r163_20, r163_23, r163_26, r163_27, r163_30, r163_31, r163_32, r163_33, r163_34, r163_35, r163_38, r163_39, r163_42, r163_45, r163_46, hl, kl_n, kl_i, kl_r, kl_z, kl_l, kl_d, catS_0, catS_c, cat_i, cat_l, cat_d, cat_r, cat_n, kC_r, kC_x, Option.bind_some, Option.toList_some, Option.toList_none, List.cons_append, List.nil_append, gB0, gB1, gB2, gB3, gB4, rvB, nI_iI, i0, i1, l0_, wr_s, aup_s, and_true, true_and, and_self, eq_self, if_true, if_false, Nat.zero_le, Nat.reduceAdd, Nat.reduceLeDiff, gN_I, gN_L, gN_P, bI_0, bI_ok, z0, z1, Bool.true_eq, Bool.false_eq_true, not_true_eq_false, not_false_eq_true]
theorem lt_loop (hN : W.2.2.2.1.1 ≤ 960) (hC : ∀ i, vOk (W.2.2.2.1.2.1 i)) : ∀ m i : Nat, i + m = W.2.2.2.1.1 → L (d + 2) 164 4 [some (.ref (x + 401)), some (.int (iI (ltN W.2.2.2.1.2.1 i))), some (.int (iI i))] [] (dkW h x W, r) =
    some (.inl (some (.int (iI (ltN W.2.2.2.1.2.1 W.2.2.2.1.1)))), (dkW h x W, r)) := by
  intro m
  induction m with
  | zero =>
    intro i hi
    obtain rfl : i = W.2.2.2.1.1 := by omega
    have c1 : (W.2.2.2.1.1 : Int) ≤ W.2.2.2.1.1 := by omega
    rw [r164_4]
    simp (disch := omega) only [r164_0, r164_1, r164_2, r164_3, r164_5, r164_6, r164_9, r164_12, r164_13, r164_14, r164_15, r164_18, r164_21, r164_24, r164_25, r164_28, r164_31, r164_32, dk_r, iI_le, c1, kl_n, kl_i, kl_r, kl_z, kl_l, kl_d, catS_0, catS_c, cat_i, cat_l, cat_d, cat_r, cat_n, kC_r, kC_x, Option.bind_some, Option.toList_some, Option.toList_none, List.cons_append, List.nil_append, gB0, gB1, gB2, gB3, gB4, rvB, nI_iI, i0, i1, l0_, wr_s, aup_s, and_true, true_and, and_self, eq_self, if_true, if_false, Nat.zero_le, Nat.reduceAdd, Nat.reduceLeDiff, gN_I, gN_L, gN_P, bI_0, bI_ok, z0, z1, Bool.true_eq, Bool.false_eq_true, not_true_eq_false, not_false_eq_true]
  | succ m ih =>
    intro i hi
    have c1 : ¬ (W.2.2.2.1.1 : Int) ≤ i := by omega
    have e1 : (i : Int) + 1 = ((i + 1 : Nat) : Int) := by omega
    have hc := hC i
    have hv := hC i
    unfold vOk at hv
    have hb2 := ltN_b hC i
    have h9 := ih (i + 1) (by omega)
    have et := s_evTick (d := d + 1) (h := dkW h x W) (r := r) hc
    have mx := s_max (d := d + 1) (h := dkW h x W) (r := r) (a := (ltN W.2.2.2.1.2.1 i : Int)) (b := ((W.2.2.2.1.2.1 i / 262144 : Nat) : Int)) (by omega) (by omega) (by omega) (by omega)
    have hg : max (ltN W.2.2.2.1.2.1 i : Int) ((W.2.2.2.1.2.1 i / 262144 : Nat) : Int) = (ltN W.2.2.2.1.2.1 (i + 1) : Int) := by
      show _ = ((max (ltN W.2.2.2.1.2.1 i) (W.2.2.2.1.2.1 i / 262144) : Nat) : Int)
      omega
    rw [hg] at mx
    rw [r164_4]
    simp (disch := omega) only [r164_0, r164_1, r164_2, r164_3, r164_5, r164_6, r164_9, r164_12, r164_13, r164_14, r164_15, r164_18, r164_21, r164_24, r164_25, r164_28, r164_31, r164_32, dk_r, iI_le, c1, s_evAt, et, mx, iI_add, e1, h9, kl_n, kl_i, kl_r, kl_z, kl_l, kl_d, catS_0, catS_c, cat_i, cat_l, cat_d, cat_r, cat_n, kC_r, kC_x, Option.bind_some, Option.toList_some, Option.toList_none, List.cons_append, List.nil_append, gB0, gB1, gB2, gB3, gB4, rvB, nI_iI, i0, i1, l0_, wr_s, aup_s, and_true, true_and, and_self, eq_self, if_true, if_false, Nat.zero_le, Nat.reduceAdd, Nat.reduceLeDiff, gN_I, gN_L, gN_P, bI_0, bI_ok, z0, z1, Bool.true_eq, Bool.false_eq_true, not_true_eq_false, not_false_eq_true]
theorem s_lastTick (hN : W.2.2.2.1.1 ≤ 960) (hC : ∀ i, vOk (W.2.2.2.1.2.1 i)) : aE (d + 3) 164 [.ref (x + 401)] (dkW h x W, r) =
    some (.inl (some (.int (iI (ltN W.2.2.2.1.2.1 W.2.2.2.1.1)))), (dkW h x W, r)) := by
  have hl := lt_loop (d := d) (h := h) (r := r) (x := x) hN hC W.2.2.2.1.1 0 (by omega)
  rw [show ((0 : Nat) : Int) = 0 from rfl, show ((ltN W.2.2.2.1.2.1 0 : Nat) : Int) = 0 from rfl] at hl
  simp only [e164, r164_0, r164_1, r164_2, r164_3, r164_5, r164_6, r164_9, r164_12, r164_13, r164_14, r164_15, r164_18, r164_21, r164_24, r164_25, r164_28, r164_31, r164_32, hl, kl_n, kl_i, kl_r, kl_z, kl_l, kl_d, catS_0, catS_c, cat_i, cat_l, cat_d, cat_r, cat_n, kC_r, kC_x, Option.bind_some, Option.toList_some, Option.toList_none, List.cons_append, List.nil_append, gB0, gB1, gB2, gB3, gB4, rvB, nI_iI, i0, i1, l0_, wr_s, aup_s, and_true, true_and, and_self, eq_self, if_true, if_false, Nat.zero_le, Nat.reduceAdd, Nat.reduceLeDiff, gN_I, gN_L, gN_P, bI_0, bI_ok, z0, z1, Bool.true_eq, Bool.false_eq_true, not_true_eq_false, not_false_eq_true]
theorem s_rsize : aE (d + 1) 152 [.ref (x + 401)] (dkW h x W, r) = some (.inl (some (.int (iI W.2.2.2.1.1))), (dkW h x W, r)) := by
  simp only [e152, r152_0, r152_1, r152_4, dk_r, kl_n, kl_i, kl_r, kl_z, kl_l, kl_d, catS_0, catS_c, cat_i, cat_l, cat_d, cat_r, cat_n, kC_r, kC_x, Option.bind_some, Option.toList_some, Option.toList_none, List.cons_append, List.nil_append, gB0, gB1, gB2, gB3, gB4, rvB, nI_iI, i0, i1, l0_, wr_s, aup_s, and_true, true_and, and_self, eq_self, if_true, if_false, Nat.zero_le, Nat.reduceAdd, Nat.reduceLeDiff, gN_I, gN_L, gN_P, bI_0, bI_ok, z0, z1, Bool.true_eq, Bool.false_eq_true, not_true_eq_false, not_false_eq_true]
end
/-! the desk's methods of what is played -/
abbrev rn2 (W : Dk) : Prop := rnOk W ∧ ∀ i, vOk (W.2.2.2.1.2.2 i)
/-- the desk when its events are sorted: N of them, as C -/
def srW (W : Dk) (N : Nat) (C S : Nat → Nat) : Dk := (W.1, W.2.1, W.2.2.1, (N, C, S), W.2.2.2.2)
section
variable {d n w : Nat} {g : Nat × Nat} {h : aHf} {x : Nat} {W : Dk}
theorem s_events (hO : dkOk W) (hR : rn2 W) : aE (d + 12) 71 [.ref x] (dkW h x W, n, w, g) = some (.inl (some (.int (iI (plE W).1))), (dkW h x (plW W), n, w, g)) := by
  simp only [e71, r71_0, r71_1, r71_4, r71_5, r71_8, r71_11, r71_12, r71_15, r71_18, dk_0, dk_r, s_play hO.1 hR.1, s_rsize, kl_n, kl_i, kl_r, kl_z, kl_l, kl_d, catS_0, catS_c, cat_i, cat_l, cat_d, cat_r, cat_n, kC_r, kC_x, Option.bind_some, Option.toList_some, Option.toList_none, List.cons_append, List.nil_append, gB0, gB1, gB2, gB3, gB4, rvB, nI_iI, i0, i1, l0_, wr_s, aup_s, and_true, true_and, and_self, eq_self, if_true, if_false, Nat.zero_le, Nat.reduceAdd, Nat.reduceLeDiff, gN_I, gN_L, gN_P, bI_0, bI_ok, z0, z1, Bool.true_eq, Bool.false_eq_true, not_true_eq_false, not_false_eq_true]
  rfl
theorem s_sorted (hO : dkOk W) (hR : rn2 W) : ∃ C S, sor C 0 (plE W).1 ∧ (∀ v, cn C v (plE W).1 = cn (plE W).2 v (plE W).1) ∧ (∀ i, vOk (C i)) ∧ (∀ i, vOk (S i)) ∧ aE (d + 6) 161 [.ref (x + 401)] (dkW h x (plW W), n, w, g) = some (.inl none, (dkW h x (srW W (plE W).1 C S), n, w, g)) :=
  s_sort (d := d) (h := h) (r := (n, w, g)) (x := x) (W := W) (plE_ok hO.1 hR.1).1 (plE_ok hO.1 hR.1).2 hR.2
theorem s_event {j k : Nat} (hO : dkOk W) (hR : rn2 W) (hj : j < (plE W).1) (hk : k ≤ 3) : ∃ C S, sor C 0 (plE W).1 ∧ (∀ v, cn C v (plE W).1 = cn (plE W).2 v (plE W).1) ∧ (∀ i, vOk (C i)) ∧ (∀ i, vOk (S i)) ∧
    aE (d + 12) 72 [.ref x, .int (iI j), .int (iI k)] (dkW h x W, n, w, g) = some (.inl (some (.int (iI (vFact (C j) k)))), (dkW h x (srW W (plE W).1 C S), n, w, g)) := by
  obtain ⟨C, S, z1, z2, z3, z4, z5⟩ := s_sorted (d := d + 5) (h := h) (x := x) (n := n) (w := w) (g := g) hO hR
  refine ⟨C, S, z1, z2, z3, z4, ?_⟩
  have hb := (plE_ok hO.1 hR.1).1
  have q1 : ¬ (j : Int) < 0 := by omega
  have q2 : (j : Int) < ((plE W).1 : Int) := by omega
  have q3 : (0 : Int) ≤ k ∧ (k : Int) ≤ 3 := by omega
  have e1 : (plW W).2.2.2.1.1 = (plE W).1 := rfl
  have e2 : (srW W (plE W).1 C S).2.2.2.1.2.1 = C := rfl
  have ef := s_evFact (d := d + 9) (h := dkW h x (srW W (plE W).1 C S)) (r := (n, w, g)) (z3 j) hk
  simp (disch := omega) only [e72, r72_0, r72_1, r72_4, r72_5, r72_8, r72_11, r72_12, r72_15, r72_16, r72_17, r72_20, r72_23, r72_26, r72_37, r72_38, r72_39, r72_40, r72_43, r72_46, r72_57, r72_58, r72_61, r72_64, r72_65, r72_68, r72_69, r72_72, r72_73, r72_76, dk_0, dk_r, s_play hO.1 hR.1, s_rsize, iI_lt, iI_le, q1, q2, e1, s_isWithin, q3, z5, s_evAt, e2, ef, kl_n, kl_i, kl_r, kl_z, kl_l, kl_d, catS_0, catS_c, cat_i, cat_l, cat_d, cat_r, cat_n, kC_r, kC_x, Option.bind_some, Option.toList_some, Option.toList_none, List.cons_append, List.nil_append, gB0, gB1, gB2, gB3, gB4, rvB, nI_iI, i0, i1, l0_, wr_s, aup_s, and_true, true_and, and_self, eq_self, if_true, if_false, Nat.zero_le, Nat.reduceAdd, Nat.reduceLeDiff, gN_I, gN_L, gN_P, bI_0, bI_ok, z0, z1, Bool.true_eq, Bool.false_eq_true, not_true_eq_false, not_false_eq_true]
theorem s_event_1 {j k : Int} (hO : dkOk W) (hR : rn2 W) (b1 : -2147483648 ≤ j ∧ j < 2147483648) (hc : ¬ (0 ≤ j ∧ j < (plE W).1)) : aE (d + 12) 72 [.ref x, .int (iI j), .int (iI k)] (dkW h x W, n, w, g) = some (.inr "java/lang/IndexOutOfBoundsException", (dkW h x (plW W), n + 1, w + 6, g)) := by
  have c8 : 8 ≤ d + 11 := by omega
  have hb := (plE_ok hO.1 hR.1).1
  have e1 : (plW W).2.2.2.1.1 = (plE W).1 := rfl
  by_cases q1 : j < 0
  · simp (disch := omega) only [e72, r72_0, r72_1, r72_4, r72_5, r72_8, r72_11, r72_12, r72_15, r72_16, r72_17, r72_20, r72_23, r72_26, r72_37, r72_38, r72_39, r72_40, r72_43, r72_46, r72_57, r72_58, r72_61, r72_64, r72_65, r72_68, r72_69, r72_72, r72_73, r72_76, dk_0, dk_r, s_play hO.1 hR.1, iI_lt, q1, c8, kl_n, kl_i, kl_r, kl_z, kl_l, kl_d, catS_0, catS_c, cat_i, cat_l, cat_d, cat_r, cat_n, kC_r, kC_x, Option.bind_some, Option.toList_some, Option.toList_none, List.cons_append, List.nil_append, gB0, gB1, gB2, gB3, gB4, rvB, nI_iI, i0, i1, l0_, wr_s, aup_s, and_true, true_and, and_self, eq_self, if_true, if_false, Nat.zero_le, Nat.reduceAdd, Nat.reduceLeDiff, gN_I, gN_L, gN_P, bI_0, bI_ok, z0, z1, Bool.true_eq, Bool.false_eq_true, not_true_eq_false, not_false_eq_true]
  · have q2 : ¬ j < ((plE W).1 : Int) := by omega
    simp (disch := omega) only [e72, r72_0, r72_1, r72_4, r72_5, r72_8, r72_11, r72_12, r72_15, r72_16, r72_17, r72_20, r72_23, r72_26, r72_37, r72_38, r72_39, r72_40, r72_43, r72_46, r72_57, r72_58, r72_61, r72_64, r72_65, r72_68, r72_69, r72_72, r72_73, r72_76, dk_0, dk_r, s_play hO.1 hR.1, s_rsize, iI_lt, iI_le, q1, q2, e1, c8, kl_n, kl_i, kl_r, kl_z, kl_l, kl_d, catS_0, catS_c, cat_i, cat_l, cat_d, cat_r, cat_n, kC_r, kC_x, Option.bind_some, Option.toList_some, Option.toList_none, List.cons_append, List.nil_append, gB0, gB1, gB2, gB3, gB4, rvB, nI_iI, i0, i1, l0_, wr_s, aup_s, and_true, true_and, and_self, eq_self, if_true, if_false, Nat.zero_le, Nat.reduceAdd, Nat.reduceLeDiff, gN_I, gN_L, gN_P, bI_0, bI_ok, z0, z1, Bool.true_eq, Bool.false_eq_true, not_true_eq_false, not_false_eq_true]
theorem s_event_2 {j : Nat} {k : Int} (hO : dkOk W) (hR : rn2 W) (hj : j < (plE W).1) (b1 : -2147483648 ≤ k ∧ k < 2147483648) (hc : ¬ (0 ≤ k ∧ k ≤ 3)) : aE (d + 12) 72 [.ref x, .int (iI j), .int (iI k)] (dkW h x W, n, w, g) = some (.inr "java/lang/IllegalArgumentException", (dkW h x (plW W), n + 1, w + 6, g)) := by
  have c8 : 8 ≤ d + 11 := by omega
  have hb := (plE_ok hO.1 hR.1).1
  have e1 : (plW W).2.2.2.1.1 = (plE W).1 := rfl
  have q1 : ¬ (j : Int) < 0 := by omega
  have q2 : (j : Int) < ((plE W).1 : Int) := by omega
  simp (disch := omega) only [e72, r72_0, r72_1, r72_4, r72_5, r72_8, r72_11, r72_12, r72_15, r72_16, r72_17, r72_20, r72_23, r72_26, r72_37, r72_38, r72_39, r72_40, r72_43, r72_46, r72_57, r72_58, r72_61, r72_64, r72_65, r72_68, r72_69, r72_72, r72_73, r72_76, dk_0, dk_r, s_play hO.1 hR.1, s_rsize, iI_lt, iI_le, q1, q2, e1, s_isWithin, hc, c8, kl_n, kl_i, kl_r, kl_z, kl_l, kl_d, catS_0, catS_c, cat_i, cat_l, cat_d, cat_r, cat_n, kC_r, kC_x, Option.bind_some, Option.toList_some, Option.toList_none, List.cons_append, List.nil_append, gB0, gB1, gB2, gB3, gB4, rvB, nI_iI, i0, i1, l0_, wr_s, aup_s, and_true, true_and, and_self, eq_self, if_true, if_false, Nat.zero_le, Nat.reduceAdd, Nat.reduceLeDiff, gN_I, gN_L, gN_P, bI_0, bI_ok, z0, z1, Bool.true_eq, Bool.false_eq_true, not_true_eq_false, not_false_eq_true]
theorem s_sounding {t : Nat} (hO : dkOk W) (hR : rn2 W) (ht : t ≤ 99999) : aE (d + 12) 73 [.ref x, .int (iI t)] (dkW h x W, n, w, g) = some (.inl (some (.int (iI (ctI (plE W).2 t (plE W).1)))), (dkW h x (plW W), n, w, g)) := by
  have q1 : (0 : Int) ≤ t ∧ (t : Int) ≤ 99999 := by omega
  have hb := plE_ok hO.1 hR.1
  have ca : aE (d + 11) 162 [.ref (x + 401), .int (iI t)] (dkW h x (plW W), n, w, g) = some (.inl (some (.int (iI (ctI (plE W).2 t (plE W).1)))), (dkW h x (plW W), n, w, g)) := s_countAt (d := d + 8) (W := plW W) (by omega) hb.1 hb.2
  simp (disch := omega) only [e73, r73_0, r73_1, r73_4, r73_7, r73_17, r73_18, r73_21, r73_22, r73_25, r73_28, r73_29, r73_32, r73_33, r73_36, s_isFarTick, q1, dk_0, dk_r, s_play hO.1 hR.1, ca, kl_n, kl_i, kl_r, kl_z, kl_l, kl_d, catS_0, catS_c, cat_i, cat_l, cat_d, cat_r, cat_n, kC_r, kC_x, Option.bind_some, Option.toList_some, Option.toList_none, List.cons_append, List.nil_append, gB0, gB1, gB2, gB3, gB4, rvB, nI_iI, i0, i1, l0_, wr_s, aup_s, and_true, true_and, and_self, eq_self, if_true, if_false, Nat.zero_le, Nat.reduceAdd, Nat.reduceLeDiff, gN_I, gN_L, gN_P, bI_0, bI_ok, z0, z1, Bool.true_eq, Bool.false_eq_true, not_true_eq_false, not_false_eq_true]
theorem s_sounding_1 {t : Int} (b1 : -2147483648 ≤ t ∧ t < 2147483648) (hc : ¬ (0 ≤ t ∧ t ≤ 99999)) : aE (d + 12) 73 [.ref x, .int (iI t)] (dkW h x W, n, w, g) = some (.inr "java/lang/IllegalArgumentException", (dkW h x W, n + 1, w + 6, g)) := by
  have c8 : 8 ≤ d + 11 := by omega
  simp (disch := omega) only [e73, r73_0, r73_1, r73_4, r73_7, s_isFarTick, c8, kl_n, kl_i, kl_r, kl_z, kl_l, kl_d, catS_0, catS_c, cat_i, cat_l, cat_d, cat_r, cat_n, kC_r, kC_x, Option.bind_some, Option.toList_some, Option.toList_none, List.cons_append, List.nil_append, gB0, gB1, gB2, gB3, gB4, rvB, nI_iI, i0, i1, l0_, wr_s, aup_s, and_true, true_and, and_self, eq_self, if_true, if_false, Nat.zero_le, Nat.reduceAdd, Nat.reduceLeDiff, gN_I, gN_L, gN_P, bI_0, bI_ok, z0, z1, Bool.true_eq, Bool.false_eq_true, not_true_eq_false, not_false_eq_true]
  rw [if_pos hc]
theorem s_most (hO : dkOk W) (hR : rn2 W) : ∃ C S, sor C 0 (plE W).1 ∧ (∀ v, cn C v (plE W).1 = cn (plE W).2 v (plE W).1) ∧ (∀ i, vOk (C i)) ∧ (∀ i, vOk (S i)) ∧
    aE (d + 12) 74 [.ref x] (dkW h x W, n, w, g) = some (.inl (some (.int (iI (gtI C (plE W).1)))), (dkW h x (srW W (plE W).1 C S), n, w, g)) := by
  obtain ⟨C, S, z1, z2, z3, z4, z5⟩ := s_sorted (d := d + 5) (h := h) (x := x) (n := n) (w := w) (g := g) hO hR
  refine ⟨C, S, z1, z2, z3, z4, ?_⟩
  have hb := (plE_ok hO.1 hR.1).1
  have ca : aE (d + 11) 163 [.ref (x + 401)] (dkW h x (srW W (plE W).1 C S), n, w, g) = some (.inl (some (.int (iI (gtI C (plE W).1)))), (dkW h x (srW W (plE W).1 C S), n, w, g)) := s_greatest (d := d + 8) (W := srW W (plE W).1 C S) hb z3
  simp (disch := omega) only [e74, r74_0, r74_1, r74_4, r74_5, r74_8, r74_11, r74_12, r74_15, r74_18, r74_19, r74_22, r74_25, dk_0, dk_r, s_play hO.1 hR.1, z5, ca, kl_n, kl_i, kl_r, kl_z, kl_l, kl_d, catS_0, catS_c, cat_i, cat_l, cat_d, cat_r, cat_n, kC_r, kC_x, Option.bind_some, Option.toList_some, Option.toList_none, List.cons_append, List.nil_append, gB0, gB1, gB2, gB3, gB4, rvB, nI_iI, i0, i1, l0_, wr_s, aup_s, and_true, true_and, and_self, eq_self, if_true, if_false, Nat.zero_le, Nat.reduceAdd, Nat.reduceLeDiff, gN_I, gN_L, gN_P, bI_0, bI_ok, z0, z1, Bool.true_eq, Bool.false_eq_true, not_true_eq_false, not_false_eq_true]
theorem s_playedTo (hO : dkOk W) (hR : rn2 W) : aE (d + 12) 75 [.ref x] (dkW h x W, n, w, g) = some (.inl (some (.int (iI (ltN (plE W).2 (plE W).1)))), (dkW h x (plW W), n, w, g)) := by
  have hb := plE_ok hO.1 hR.1
  have ca : aE (d + 11) 164 [.ref (x + 401)] (dkW h x (plW W), n, w, g) = some (.inl (some (.int (iI (ltN (plE W).2 (plE W).1)))), (dkW h x (plW W), n, w, g)) := s_lastTick (d := d + 8) (W := plW W) hb.1 hb.2
  simp (disch := omega) only [e75, r75_0, r75_1, r75_4, r75_5, r75_8, r75_11, r75_12, r75_15, r75_18, dk_0, dk_r, s_play hO.1 hR.1, ca, kl_n, kl_i, kl_r, kl_z, kl_l, kl_d, catS_0, catS_c, cat_i, cat_l, cat_d, cat_r, cat_n, kC_r, kC_x, Option.bind_some, Option.toList_some, Option.toList_none, List.cons_append, List.nil_append, gB0, gB1, gB2, gB3, gB4, rvB, nI_iI, i0, i1, l0_, wr_s, aup_s, and_true, true_and, and_self, eq_self, if_true, if_false, Nat.zero_le, Nat.reduceAdd, Nat.reduceLeDiff, gN_I, gN_L, gN_P, bI_0, bI_ok, z0, z1, Bool.true_eq, Bool.false_eq_true, not_true_eq_false, not_false_eq_true]
end
