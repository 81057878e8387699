/-! ===== how fast, and the bars ===== -/
theorem cdiv (m n : Nat) : (m : Int) / (n : Int) = ((m / n : Nat) : Int) := rfl
theorem cmod (m n : Nat) : (m : Int) % (n : Int) = ((m % n : Nat) : Int) := rfl
def tmTo (P : Nat → Nat) (n t i : Nat) : Nat := if i + 1 < n then min t (P (i + 1)) else t
def tmT (P A : Nat → Nat) (n t i : Nat) : Nat := if P i < tmTo P n t i ∧ 0 < A i then (tmTo P n t i - P i) * 62500 / A i else 0
theorem tmTo_le (P : Nat → Nat) (n t i : Nat) : tmTo P n t i ≤ t := by
  unfold tmTo
  split <;> omega
theorem tmT_le (P A : Nat → Nat) (n t i : Nat) : tmT P A n t i ≤ t * 62500 := by
  unfold tmT
  split
  · have h1 := tmTo_le P n t i
    exact Nat.le_trans (Nat.div_le_self _ _) (Nat.mul_le_mul_right _ (by omega))
  · omega
/-- marks in order, the first at 0 -/
def mkOk (n : Nat) (P A B : Nat → Nat) : Prop := 0 < n ∧ n ≤ 11 ∧ P 0 = 0 ∧ (∀ i, i + 1 < n → P i < P (i + 1)) ∧ (∀ i, P i ≤ 9599) ∧ (∀ i, A i ≤ 3000) ∧ (∀ i, B i ≤ 16)
section
variable {d a n : Nat} {h : aHf} {r : Nat × Nat × Nat × Nat} {P A B : Nat → Nat}
theorem time_loop (hI : mkI h (a + 1) n P A B) (ha : h a = some (aB 7 [.ref (a + 1)])) (hM : mkOk n P A B) {t : Nat} (ht : t < 131072) : ∀ m i : Nat, i + m = n → ∀ l5 l6 l7 : Option Value,
    L (d + 2) 170 5 [some (.ref a), some (.int (iI t)), some (.long (lI (sm (tmT P A n t) i))), none, some (.int (iI i)), l5, l6, l7] [] (h, r) = some (.inl (some (.int (iI (sm (tmT P A n t) n)))), (h, r)) := by
  obtain ⟨m1, m2, m3, m4, m5, m6, m7⟩ := hM
  have hW := mkI_id hI
  intro m
  induction m with
  | zero =>
    intro i hi l5 l6 l7
    have c1 : (n : Int) ≤ i := by omega
    have e0 := s_msize (d := d + 1) (a := a + 1) (n := n) (h := h) (r := r) (P := P) (A := A) (B := B)
    rw [hW] at e0
    rw [r170_5]
    simp (disch := omega) only [r170_0, r170_1, r170_2, r170_3, r170_7, r170_8, r170_11, r170_14, r170_17, r170_18, r170_21, r170_23, r170_26, r170_28, r170_30, r170_31, r170_32, r170_33, r170_36, r170_39, r170_42, r170_43, r170_44, r170_47, r170_49, r170_50, r170_51, r170_54, r170_57, r170_60, r170_61, r170_63, r170_64, r170_67, r170_69, r170_72, r170_74, r170_76, r170_78, r170_81, r170_83, r170_86, r170_87, r170_89, r170_91, r170_92, r170_93, r170_96, r170_97, r170_99, r170_100, r170_101, r170_102, r170_103, r170_106, r170_109, r170_110, r170_111, ha, hI.1, e0, iI_le, c1, l_i, kl_n, kl_i, kl_r, kl_z, kl_l, kl_d, catS_0, catS_c, cat_i, cat_l, cat_d, cat_r, cat_n, kC_r, kC_x, Option.bind_some, Option.toList_some, Option.toList_none, List.cons_append, List.nil_append, gB0, gB1, gB2, gB3, gB4, rvB, nI_iI, i0, i1, l0_, wr_s, aup_s, and_true, true_and, and_self, eq_self, if_true, if_false, Nat.zero_le, Nat.reduceAdd, Nat.reduceLeDiff, gN_I, gN_L, gN_P, bI_0, bI_ok, z0, z1, Bool.true_eq, Bool.false_eq_true, not_true_eq_false, not_false_eq_true]
    rw [show i = n by omega]
  | succ m ih =>
    intro i hi l5 l6 l7
    have c1 : ¬ (n : Int) ≤ i := by omega
    have e0 := s_msize (d := d + 1) (a := a + 1) (n := n) (h := h) (r := r) (P := P) (A := A) (B := B)
    rw [hW] at e0
    have e1 : (i : Int) + 1 = ((i + 1 : Nat) : Int) := by omega
    have g1 := m5 i
    have g2 := m5 (i + 1)
    have g3 := m6 i
    have g4 := tmTo_le P n t i
    have h9 := fun l5 l6 l7 => ih (i + 1) (by omega) l5 l6 l7
    have key : ∀ l5 l6 l7 : Option Value, L (d + 2) 170 61 [some (.ref a), some (.int (iI t)), some (.long (lI (sm (tmT P A n t) i))), none, some (.int (iI i)), some (.int (iI (P i))), l6, l7] [.int (iI (tmTo P n t i))] (h, r) = some (.inl (some (.int (iI (sm (tmT P A n t) n)))), (h, r)) := by
      intro l5 l6 l7
      by_cases q1 : P i < tmTo P n t i
      · by_cases q2 : 0 < A i
        · have c2 : ¬ ((tmTo P n t i : Nat) : Int) ≤ P i := by omega
          have c3 : ¬ ((A i : Nat) : Int) ≤ 0 := by omega
          have c4 : ¬ ((A i : Nat) : Int) = 0 := by omega
          have e2 : ((tmTo P n t i : Nat) : Int) - P i = ((tmTo P n t i - P i : Nat) : Int) := by omega
          have e3 : (((tmTo P n t i - P i : Nat) : Int) * 62500 / ((A i : Nat) : Int)) = (((tmTo P n t i - P i) * 62500 / A i : Nat) : Int) := by
            have := cdiv ((tmTo P n t i - P i) * 62500) (A i)
            rw [Int.natCast_mul] at this
            exact this
          have e4 : ((sm (tmT P A n t) i : Nat) : Int) + (((tmTo P n t i - P i) * 62500 / A i : Nat) : Int) = ((sm (tmT P A n t) (i + 1) : Nat) : Int) := by
            show _ = ((sm (tmT P A n t) i + tmT P A n t i : Nat) : Int)
            rw [show tmT P A n t i = (tmTo P n t i - P i) * 62500 / A i from if_pos ⟨q1, q2⟩]
            exact (Int.natCast_add _ _).symm
          simp (disch := omega) only [r170_0, r170_1, r170_2, r170_3, r170_7, r170_8, r170_11, r170_14, r170_17, r170_18, r170_21, r170_23, r170_26, r170_28, r170_30, r170_31, r170_32, r170_33, r170_36, r170_39, r170_42, r170_43, r170_44, r170_47, r170_49, r170_50, r170_51, r170_54, r170_57, r170_60, r170_61, r170_63, r170_64, r170_67, r170_69, r170_72, r170_74, r170_76, r170_78, r170_81, r170_83, r170_86, r170_87, r170_89, r170_91, r170_92, r170_93, r170_96, r170_97, r170_99, r170_100, r170_101, r170_102, r170_103, r170_106, r170_109, r170_110, r170_111, ha, hI.1, s_firstAtG hI, Int.toNat_natCast, iI_le, c2, c3, iI_sub, e2, i_l, lI_mul, lI_eq, c4, lI_div, e3, lI_add, e4, iI_add, e1, h9, kl_n, kl_i, kl_r, kl_z, kl_l, kl_d, catS_0, catS_c, cat_i, cat_l, cat_d, cat_r, cat_n, kC_r, kC_x, Option.bind_some, Option.toList_some, Option.toList_none, List.cons_append, List.nil_append, gB0, gB1, gB2, gB3, gB4, rvB, nI_iI, i0, i1, l0_, wr_s, aup_s, and_true, true_and, and_self, eq_self, if_true, if_false, Nat.zero_le, Nat.reduceAdd, Nat.reduceLeDiff, gN_I, gN_L, gN_P, bI_0, bI_ok, z0, z1, Bool.true_eq, Bool.false_eq_true, not_true_eq_false, not_false_eq_true]
        · have c2 : ¬ ((tmTo P n t i : Nat) : Int) ≤ P i := by omega
          have c3 : ((A i : Nat) : Int) ≤ 0 := by omega
          have e4 : sm (tmT P A n t) i = sm (tmT P A n t) (i + 1) := by
            show _ = sm (tmT P A n t) i + tmT P A n t i
            rw [show tmT P A n t i = 0 from if_neg (fun z => q2 z.2)]
            rfl
          rw [e4]
          simp (disch := omega) only [r170_0, r170_1, r170_2, r170_3, r170_7, r170_8, r170_11, r170_14, r170_17, r170_18, r170_21, r170_23, r170_26, r170_28, r170_30, r170_31, r170_32, r170_33, r170_36, r170_39, r170_42, r170_43, r170_44, r170_47, r170_49, r170_50, r170_51, r170_54, r170_57, r170_60, r170_61, r170_63, r170_64, r170_67, r170_69, r170_72, r170_74, r170_76, r170_78, r170_81, r170_83, r170_86, r170_87, r170_89, r170_91, r170_92, r170_93, r170_96, r170_97, r170_99, r170_100, r170_101, r170_102, r170_103, r170_106, r170_109, r170_110, r170_111, ha, hI.1, s_firstAtG hI, Int.toNat_natCast, iI_le, c2, c3, iI_add, e1, h9, kl_n, kl_i, kl_r, kl_z, kl_l, kl_d, catS_0, catS_c, cat_i, cat_l, cat_d, cat_r, cat_n, kC_r, kC_x, Option.bind_some, Option.toList_some, Option.toList_none, List.cons_append, List.nil_append, gB0, gB1, gB2, gB3, gB4, rvB, nI_iI, i0, i1, l0_, wr_s, aup_s, and_true, true_and, and_self, eq_self, if_true, if_false, Nat.zero_le, Nat.reduceAdd, Nat.reduceLeDiff, gN_I, gN_L, gN_P, bI_0, bI_ok, z0, z1, Bool.true_eq, Bool.false_eq_true, not_true_eq_false, not_false_eq_true]
      · have c2 : ((tmTo P n t i : Nat) : Int) ≤ P i := by omega
        have e4 : sm (tmT P A n t) i = sm (tmT P A n t) (i + 1) := by
          show _ = sm (tmT P A n t) i + tmT P A n t i
          rw [show tmT P A n t i = 0 from if_neg (fun z => q1 z.1)]
          rfl
        rw [e4]
        simp (disch := omega) only [r170_0, r170_1, r170_2, r170_3, r170_7, r170_8, r170_11, r170_14, r170_17, r170_18, r170_21, r170_23, r170_26, r170_28, r170_30, r170_31, r170_32, r170_33, r170_36, r170_39, r170_42, r170_43, r170_44, r170_47, r170_49, r170_50, r170_51, r170_54, r170_57, r170_60, r170_61, r170_63, r170_64, r170_67, r170_69, r170_72, r170_74, r170_76, r170_78, r170_81, r170_83, r170_86, r170_87, r170_89, r170_91, r170_92, r170_93, r170_96, r170_97, r170_99, r170_100, r170_101, r170_102, r170_103, r170_106, r170_109, r170_110, r170_111, ha, hI.1, s_firstAtG hI, Int.toNat_natCast, iI_le, c2, iI_add, e1, h9, kl_n, kl_i, kl_r, kl_z, kl_l, kl_d, catS_0, catS_c, cat_i, cat_l, cat_d, cat_r, cat_n, kC_r, kC_x, Option.bind_some, Option.toList_some, Option.toList_none, List.cons_append, List.nil_append, gB0, gB1, gB2, gB3, gB4, rvB, nI_iI, i0, i1, l0_, wr_s, aup_s, and_true, true_and, and_self, eq_self, if_true, if_false, Nat.zero_le, Nat.reduceAdd, Nat.reduceLeDiff, gN_I, gN_L, gN_P, bI_0, bI_ok, z0, z1, Bool.true_eq, Bool.false_eq_true, not_true_eq_false, not_false_eq_true]
    by_cases q : i + 1 < n
    · have c2 : ¬ (n : Int) ≤ ((i + 1 : Nat) : Int) := by omega
      have e2 : min (t : Int) ((P (i + 1) : Nat) : Int) = ((tmTo P n t i : Nat) : Int) := by
        rw [show tmTo P n t i = min t (P (i + 1)) from if_pos q]
        omega
      rw [r170_5]
      simp (disch := omega) only [r170_7, r170_8, r170_11, r170_14, r170_17, r170_18, r170_21, r170_23, r170_26, r170_28, r170_30, r170_31, r170_32, r170_33, r170_36, r170_39, r170_42, r170_43, r170_44, r170_47, r170_49, r170_50, r170_51, r170_54, r170_57, r170_60, ha, hI.1, e0, iI_le, c1, s_placeAtG hI, Int.toNat_natCast, iI_add, e1, c2, s_min, e2, kl_n, kl_i, kl_r, kl_z, kl_l, kl_d, catS_0, catS_c, cat_i, cat_l, cat_d, cat_r, cat_n, kC_r, kC_x, Option.bind_some, Option.toList_some, Option.toList_none, List.cons_append, List.nil_append, gB0, gB1, gB2, gB3, gB4, rvB, nI_iI, i0, i1, l0_, wr_s, aup_s, and_true, true_and, and_self, eq_self, if_true, if_false, Nat.zero_le, Nat.reduceAdd, Nat.reduceLeDiff, gN_I, gN_L, gN_P, bI_0, bI_ok, z0, z1, Bool.true_eq, Bool.false_eq_true, not_true_eq_false, not_false_eq_true]
      exact key none l6 l7
    · have c2 : (n : Int) ≤ ((i + 1 : Nat) : Int) := by omega
      have e2 : t = tmTo P n t i := (if_neg q).symm
      rw [r170_5]
      simp (disch := omega) only [r170_7, r170_8, r170_11, r170_14, r170_17, r170_18, r170_21, r170_23, r170_26, r170_28, r170_30, r170_31, r170_32, r170_33, r170_36, r170_39, r170_42, r170_43, r170_44, r170_47, r170_49, r170_50, r170_51, r170_54, r170_57, r170_60, ha, hI.1, e0, iI_le, c1, s_placeAtG hI, Int.toNat_natCast, iI_add, e1, c2, kl_n, kl_i, kl_r, kl_z, kl_l, kl_d, catS_0, catS_c, cat_i, cat_l, cat_d, cat_r, cat_n, kC_r, kC_x, Option.bind_some, Option.toList_some, Option.toList_none, List.cons_append, List.nil_append, gB0, gB1, gB2, gB3, gB4, rvB, nI_iI, i0, i1, l0_, wr_s, aup_s, and_true, true_and, and_self, eq_self, if_true, if_false, Nat.zero_le, Nat.reduceAdd, Nat.reduceLeDiff, gN_I, gN_L, gN_P, bI_0, bI_ok, z0, z1, Bool.true_eq, Bool.false_eq_true, not_true_eq_false, not_false_eq_true]
      have k9 := key none l6 l7
      rw [← e2] at k9
      exact k9
theorem s_timeAt (hI : mkI h (a + 1) n P A B) (ha : h a = some (aB 7 [.ref (a + 1)])) (hM : mkOk n P A B) {t : Nat} (ht : t < 131072) : aE (d + 3) 170 [.ref a, .int (iI t)] (h, r) = some (.inl (some (.int (iI (sm (tmT P A n t) n)))), (h, r)) := by
  have hl := time_loop (d := d) (r := r) hI ha hM ht n 0 (by omega) none none none
  rw [show ((0 : Nat) : Int) = 0 from rfl, show sm (tmT P A n t) 0 = 0 from rfl, show ((0 : Nat) : Int) = 0 from rfl] at hl
  simp only [e170, r170_0, r170_1, r170_2, r170_3, r170_7, r170_8, r170_11, r170_14, r170_17, r170_18, r170_21, r170_23, r170_26, r170_28, r170_30, r170_31, r170_32, r170_33, r170_36, r170_39, r170_42, r170_43, r170_44, r170_47, r170_49, r170_50, r170_51, r170_54, r170_57, r170_60, r170_61, r170_63, r170_64, r170_67, r170_69, r170_72, r170_74, r170_76, r170_78, r170_81, r170_83, r170_86, r170_87, r170_89, r170_91, r170_92, r170_93, r170_96, r170_97, r170_99, r170_100, r170_101, r170_102, r170_103, r170_106, r170_109, r170_110, r170_111, hl, kl_n, kl_i, kl_r, kl_z, kl_l, kl_d, catS_0, catS_c, cat_i, cat_l, cat_d, cat_r, cat_n, kC_r, kC_x, Option.bind_some, Option.toList_some, Option.toList_none, List.cons_append, List.nil_append, gB0, gB1, gB2, gB3, gB4, rvB, nI_iI, i0, i1, l0_, wr_s, aup_s, and_true, true_and, and_self, eq_self, if_true, if_false, Nat.zero_le, Nat.reduceAdd, Nat.reduceLeDiff, gN_I, gN_L, gN_P, bI_0, bI_ok, z0, z1, Bool.true_eq, Bool.false_eq_true, not_true_eq_false, not_false_eq_true]
/-- bit by bit, the greatest tick not above a time -/
def tkA (T : Nat → Nat) (v : Nat) : Nat → Nat → Nat
  | 0, t => t
  | k + 1, t => if t + 2 ^ k < 100000 ∧ T (t + 2 ^ k) ≤ v then tkA T v k (t + 2 ^ k) else tkA T v k t
theorem tick_loop (hI : mkI h (a + 1) n P A B) (ha : h a = some (aB 7 [.ref (a + 1)])) (hM : mkOk n P A B) {v : Nat} (hv : v < 2147483648) (hT : ∀ t, t < 131072 → sm (tmT P A n t) n < 2147483648) : ∀ k t : Nat, k ≤ 17 → t < 100000 → ∀ l4 : Option Value,
    L (d + 3) 171 5 [some (.ref a), some (.int (iI v)), some (.int (iI t)), some (.int (iI ((k : Int) - 1))), l4] [] (h, r) = some (.inl (some (.int (iI (tkA (fun t => sm (tmT P A n t) n) v k t)))), (h, r)) := by
  intro k
  induction k with
  | zero =>
    intro t hk ht l4
    have c1 : ((0 : Nat) : Int) - 1 < 0 := by omega
    rw [r171_5]
    simp (disch := omega) only [r171_0, r171_1, r171_2, r171_4, r171_6, r171_9, r171_10, r171_11, r171_12, r171_13, r171_14, r171_16, r171_18, r171_20, r171_23, r171_24, r171_26, r171_29, r171_30, r171_33, r171_35, r171_36, r171_39, r171_42, r171_43, iI_lt, c1, kl_n, kl_i, kl_r, kl_z, kl_l, kl_d, catS_0, catS_c, cat_i, cat_l, cat_d, cat_r, cat_n, kC_r, kC_x, Option.bind_some, Option.toList_some, Option.toList_none, List.cons_append, List.nil_append, gB0, gB1, gB2, gB3, gB4, rvB, nI_iI, i0, i1, l0_, wr_s, aup_s, and_true, true_and, and_self, eq_self, if_true, if_false, Nat.zero_le, Nat.reduceAdd, Nat.reduceLeDiff, gN_I, gN_L, gN_P, bI_0, bI_ok, z0, z1, Bool.true_eq, Bool.false_eq_true, not_true_eq_false, not_false_eq_true]
    rfl
  | succ k ih =>
    intro t hk ht l4
    have c1 : ¬ ((k + 1 : Nat) : Int) - 1 < 0 := by omega
    have e1 : ((k + 1 : Nat) : Int) - 1 = (k : Nat) := by omega
    have hp : 2 ^ k ≤ 65536 := by
      have : 2 ^ k ≤ 2 ^ 16 := Nat.pow_le_pow_right (by decide) (by omega)
      omega
    have e2 : (1 : Int) * 2 ^ k = ((2 ^ k : Nat) : Int) := by rw [Int.one_mul, Int.natCast_pow]; rfl
    obtain ⟨w, hw⟩ : ∃ w, w = t + 2 ^ k := ⟨_, rfl⟩
    have e3 : (t : Int) + ((2 ^ k : Nat) : Int) = (w : Int) := by rw [hw]; exact (Int.natCast_add _ _).symm
    have hw2 : w ≤ 165536 := by omega
    have e4 : (k : Int) + -1 = (k : Int) - 1 := by omega
    have h1 := fun l4 => ih t (by omega) ht l4
    have hsh := ishl 1 k (by omega)
    rw [e2] at hsh
    have e6 : tkA (fun t => sm (tmT P A n t) n) v (k + 1) t = if w < 100000 ∧ sm (tmT P A n w) n ≤ v then tkA (fun t => sm (tmT P A n t) n) v k w else tkA (fun t => sm (tmT P A n t) n) v k t := by rw [hw]; rfl
    by_cases q1 : w < 100000
    · have c2 : ¬ (100000 : Int) ≤ (w : Int) := by omega
      have h2 := fun l4 => ih w (by omega) q1 l4
      have g1 := hT w (by omega)
      by_cases q2 : sm (tmT P A n w) n ≤ v
      · have c3 : ¬ (v : Int) < ((sm (tmT P A n w) n : Nat) : Int) := by omega
        rw [if_pos ⟨q1, q2⟩] at e6
        rw [r171_5, e1, e6]
        rw [e1] at c1
        simp (disch := omega) only [r171_0, r171_1, r171_2, r171_4, r171_6, r171_9, r171_10, r171_11, r171_12, r171_13, r171_14, r171_16, r171_18, r171_20, r171_23, r171_24, r171_26, r171_29, r171_30, r171_33, r171_35, r171_36, r171_39, r171_42, r171_43, ha, iI_lt, iI_le, c1, hsh, iI_add, e3, c2, s_timeAt hI ha hM (show w < 131072 by omega), c3, e4, h2, kl_n, kl_i, kl_r, kl_z, kl_l, kl_d, catS_0, catS_c, cat_i, cat_l, cat_d, cat_r, cat_n, kC_r, kC_x, Option.bind_some, Option.toList_some, Option.toList_none, List.cons_append, List.nil_append, gB0, gB1, gB2, gB3, gB4, rvB, nI_iI, i0, i1, l0_, wr_s, aup_s, and_true, true_and, and_self, eq_self, if_true, if_false, Nat.zero_le, Nat.reduceAdd, Nat.reduceLeDiff, gN_I, gN_L, gN_P, bI_0, bI_ok, z0, z1, Bool.true_eq, Bool.false_eq_true, not_true_eq_false, not_false_eq_true]
      · have c3 : (v : Int) < ((sm (tmT P A n w) n : Nat) : Int) := by omega
        rw [if_neg (fun z => q2 z.2)] at e6
        rw [r171_5, e1, e6]
        rw [e1] at c1
        simp (disch := omega) only [r171_0, r171_1, r171_2, r171_4, r171_6, r171_9, r171_10, r171_11, r171_12, r171_13, r171_14, r171_16, r171_18, r171_20, r171_23, r171_24, r171_26, r171_29, r171_30, r171_33, r171_35, r171_36, r171_39, r171_42, r171_43, ha, iI_lt, iI_le, c1, hsh, iI_add, e3, c2, s_timeAt hI ha hM (show w < 131072 by omega), c3, e4, h1, kl_n, kl_i, kl_r, kl_z, kl_l, kl_d, catS_0, catS_c, cat_i, cat_l, cat_d, cat_r, cat_n, kC_r, kC_x, Option.bind_some, Option.toList_some, Option.toList_none, List.cons_append, List.nil_append, gB0, gB1, gB2, gB3, gB4, rvB, nI_iI, i0, i1, l0_, wr_s, aup_s, and_true, true_and, and_self, eq_self, if_true, if_false, Nat.zero_le, Nat.reduceAdd, Nat.reduceLeDiff, gN_I, gN_L, gN_P, bI_0, bI_ok, z0, z1, Bool.true_eq, Bool.false_eq_true, not_true_eq_false, not_false_eq_true]
    · have c2 : (100000 : Int) ≤ (w : Int) := by omega
      rw [if_neg (fun z => q1 z.1)] at e6
      rw [r171_5, e1, e6]
      rw [e1] at c1
      simp (disch := omega) only [r171_0, r171_1, r171_2, r171_4, r171_6, r171_9, r171_10, r171_11, r171_12, r171_13, r171_14, r171_16, r171_18, r171_20, r171_23, r171_24, r171_26, r171_29, r171_30, r171_33, r171_35, r171_36, r171_39, r171_42, r171_43, ha, iI_lt, iI_le, c1, hsh, iI_add, e3, c2, e4, h1, kl_n, kl_i, kl_r, kl_z, kl_l, kl_d, catS_0, catS_c, cat_i, cat_l, cat_d, cat_r, cat_n, kC_r, kC_x, Option.bind_some, Option.toList_some, Option.toList_none, List.cons_append, List.nil_append, gB0, gB1, gB2, gB3, gB4, rvB, nI_iI, i0, i1, l0_, wr_s, aup_s, and_true, true_and, and_self, eq_self, if_true, if_false, Nat.zero_le, Nat.reduceAdd, Nat.reduceLeDiff, gN_I, gN_L, gN_P, bI_0, bI_ok, z0, z1, Bool.true_eq, Bool.false_eq_true, not_true_eq_false, not_false_eq_true]
theorem s_tickAt (hI : mkI h (a + 1) n P A B) (ha : h a = some (aB 7 [.ref (a + 1)])) (hM : mkOk n P A B) {v : Nat} (hv : v < 2147483648) (hT : ∀ t, t < 131072 → sm (tmT P A n t) n < 2147483648) : aE (d + 4) 171 [.ref a, .int (iI v)] (h, r) = some (.inl (some (.int (iI (tkA (fun t => sm (tmT P A n t) n) v 17 0)))), (h, r)) := by
  have hl := tick_loop (d := d) (r := r) hI ha hM hv hT 17 0 (by omega) (by omega) none
  rw [show ((17 : Nat) : Int) - 1 = 16 from rfl, show ((0 : Nat) : Int) = 0 from rfl] at hl
  simp only [e171, r171_0, r171_1, r171_2, r171_4, r171_6, r171_9, r171_10, r171_11, r171_12, r171_13, r171_14, r171_16, r171_18, r171_20, r171_23, r171_24, r171_26, r171_29, r171_30, r171_33, r171_35, r171_36, r171_39, r171_42, r171_43, hl, kl_n, kl_i, kl_r, kl_z, kl_l, kl_d, catS_0, catS_c, cat_i, cat_l, cat_d, cat_r, cat_n, kC_r, kC_x, Option.bind_some, Option.toList_some, Option.toList_none, List.cons_append, List.nil_append, gB0, gB1, gB2, gB3, gB4, rvB, nI_iI, i0, i1, l0_, wr_s, aup_s, and_true, true_and, and_self, eq_self, if_true, if_false, Nat.zero_le, Nat.reduceAdd, Nat.reduceLeDiff, gN_I, gN_L, gN_P, bI_0, bI_ok, z0, z1, Bool.true_eq, Bool.false_eq_true, not_true_eq_false, not_false_eq_true]
/-! bars -/
def bl (B : Nat → Nat) (i : Nat) : Nat := if 0 < B i then max 1 (384 / B i) else 1
def br (A B : Nat → Nat) (i : Nat) : Nat := max 1 (A i) * bl B i
/-- from one mark to the next -/
def bst (P A B : Nat → Nat) (i : Nat) : Nat := (P (i + 1) - P i) * br A B i
theorem bl_pos (B : Nat → Nat) (i : Nat) : 0 < bl B i := by
  unfold bl
  split <;> omega
theorem bl_le (B : Nat → Nat) (i : Nat) : bl B i ≤ 384 := by
  unfold bl
  split
  · have := Nat.div_le_self 384 (B i)
    omega
  · omega
theorem br_pos (A B : Nat → Nat) (i : Nat) : 0 < br A B i := Nat.mul_pos (by omega) (bl_pos B i)
theorem br_le {A : Nat → Nat} (B : Nat → Nat) (i : Nat) (hA : A i ≤ 16) : br A B i ≤ 6144 := by
  have h1 : max 1 (A i) ≤ 16 := by omega
  exact Nat.mul_le_mul h1 (bl_le B i)
theorem bst_le {P A : Nat → Nat} (B : Nat → Nat) (i : Nat) (hP : P (i + 1) ≤ 9599) (hA : A i ≤ 16) : bst P A B i ≤ 9599 * 6144 := Nat.mul_le_mul (by omega) (br_le B i hA)
theorem s_beatLen (hI : mkI h (a + 1) n P A B) (ha : h a = some (aB 3 [.ref (a + 1)])) (hB : ∀ i, B i ≤ 16) {i : Nat} (hi : i < 11) : aE (d + 3) 130 [.ref a, .int (iI i)] (h, r) = some (.inl (some (.int (iI (bl B i)))), (h, r)) := by
  have g1 := hB i
  by_cases q : 0 < B i
  · have c1 : ¬ ((B i : Nat) : Int) ≤ 0 := by omega
    have c2 : ¬ ((B i : Nat) : Int) = 0 := by omega
    have e1 : (384 : Int) / ((B i : Nat) : Int) = ((384 / B i : Nat) : Int) := cdiv 384 (B i)
    have g2 := Nat.div_le_self 384 (B i)
    have e9 : bl B i = max 1 (384 / B i) := if_pos q
    generalize 384 / B i = z9 at e1 g2 e9
    have e2 : max (1 : Int) (z9 : Int) = ((bl B i : Nat) : Int) := by
      rw [e9]
      omega
    simp (disch := omega) only [e130, r130_0, r130_1, r130_4, r130_5, r130_8, r130_9, r130_10, r130_13, r130_14, r130_17, r130_18, r130_19, r130_22, r130_25, r130_26, ha, hI.1, s_secondAtG hI, Int.toNat_natCast, iI_le, iI_eq, c1, c2, iI_div, e1, s_max, e2, kl_n, kl_i, kl_r, kl_z, kl_l, kl_d, catS_0, catS_c, cat_i, cat_l, cat_d, cat_r, cat_n, kC_r, kC_x, Option.bind_some, Option.toList_some, Option.toList_none, List.cons_append, List.nil_append, gB0, gB1, gB2, gB3, gB4, rvB, nI_iI, i0, i1, l0_, wr_s, aup_s, and_true, true_and, and_self, eq_self, if_true, if_false, Nat.zero_le, Nat.reduceAdd, Nat.reduceLeDiff, gN_I, gN_L, gN_P, bI_0, bI_ok, z0, z1, Bool.true_eq, Bool.false_eq_true, not_true_eq_false, not_false_eq_true]
  · have c1 : ((B i : Nat) : Int) ≤ 0 := by omega
    have e2 : bl B i = 1 := if_neg q
    simp (disch := omega) only [e130, r130_0, r130_1, r130_4, r130_5, r130_8, r130_9, r130_10, r130_13, r130_14, r130_17, r130_18, r130_19, r130_22, r130_25, r130_26, ha, hI.1, s_secondAtG hI, Int.toNat_natCast, iI_le, c1, e2, kl_n, kl_i, kl_r, kl_z, kl_l, kl_d, catS_0, catS_c, cat_i, cat_l, cat_d, cat_r, cat_n, kC_r, kC_x, Option.bind_some, Option.toList_some, Option.toList_none, List.cons_append, List.nil_append, gB0, gB1, gB2, gB3, gB4, rvB, nI_iI, i0, i1, l0_, wr_s, aup_s, and_true, true_and, and_self, eq_self, if_true, if_false, Nat.zero_le, Nat.reduceAdd, Nat.reduceLeDiff, gN_I, gN_L, gN_P, bI_0, bI_ok, z0, z1, Bool.true_eq, Bool.false_eq_true, not_true_eq_false, not_false_eq_true]
    rfl
theorem s_barLen (hI : mkI h (a + 1) n P A B) (ha : h a = some (aB 3 [.ref (a + 1)])) (hA : ∀ i, A i ≤ 16) (hB : ∀ i, B i ≤ 16) {i : Nat} (hi : i < 11) : aE (d + 4) 131 [.ref a, .int (iI i)] (h, r) = some (.inl (some (.int (iI (br A B i)))), (h, r)) := by
  have g1 := hA i
  have e2 : max (1 : Int) ((A i : Nat) : Int) = ((max 1 (A i) : Nat) : Int) := by omega
  have e3 : ((max 1 (A i) : Nat) : Int) * ((bl B i : Nat) : Int) = ((br A B i : Nat) : Int) := (Int.natCast_mul _ _).symm
  simp (disch := omega) only [e131, r131_0, r131_1, r131_2, r131_5, r131_6, r131_9, r131_12, r131_13, r131_14, r131_17, r131_18, ha, hI.1, s_firstAtG hI, Int.toNat_natCast, s_max, e2, s_beatLen hI ha hB hi, iI_mul, e3, kl_n, kl_i, kl_r, kl_z, kl_l, kl_d, catS_0, catS_c, cat_i, cat_l, cat_d, cat_r, cat_n, kC_r, kC_x, Option.bind_some, Option.toList_some, Option.toList_none, List.cons_append, List.nil_append, gB0, gB1, gB2, gB3, gB4, rvB, nI_iI, i0, i1, l0_, wr_s, aup_s, and_true, true_and, and_self, eq_self, if_true, if_false, Nat.zero_le, Nat.reduceAdd, Nat.reduceLeDiff, gN_I, gN_L, gN_P, bI_0, bI_ok, z0, z1, Bool.true_eq, Bool.false_eq_true, not_true_eq_false, not_false_eq_true]
theorem start_loop (hI : mkI h (a + 1) n P A B) (ha : h a = some (aB 3 [.ref (a + 1)])) (hM : mkOk n P A B) (hA : ∀ i, A i ≤ 16) {k : Nat} (hk : k < n) : ∀ m i : Nat, i + m = k →
    L (d + 4) 132 4 [some (.ref a), some (.int (iI k)), some (.int (iI (sm (bst P A B) i))), some (.int (iI i))] [] (h, r) = some (.inl (some (.int (iI (sm (bst P A B) k)))), (h, r)) := by
  obtain ⟨m1, m2, m3, m4, m5, m6, m7⟩ := hM
  intro m
  induction m with
  | zero =>
    intro i hi
    have c1 : (k : Int) ≤ i := by omega
    rw [r132_4]
    simp (disch := omega) only [r132_0, r132_1, r132_2, r132_3, r132_5, r132_6, r132_9, r132_10, r132_11, r132_14, r132_15, r132_16, r132_17, r132_20, r132_21, r132_24, r132_25, r132_28, r132_29, r132_30, r132_31, r132_34, r132_35, r132_36, r132_37, r132_40, r132_43, r132_44, iI_le, c1, kl_n, kl_i, kl_r, kl_z, kl_l, kl_d, catS_0, catS_c, cat_i, cat_l, cat_d, cat_r, cat_n, kC_r, kC_x, Option.bind_some, Option.toList_some, Option.toList_none, List.cons_append, List.nil_append, gB0, gB1, gB2, gB3, gB4, rvB, nI_iI, i0, i1, l0_, wr_s, aup_s, and_true, true_and, and_self, eq_self, if_true, if_false, Nat.zero_le, Nat.reduceAdd, Nat.reduceLeDiff, gN_I, gN_L, gN_P, bI_0, bI_ok, z0, z1, Bool.true_eq, Bool.false_eq_true, not_true_eq_false, not_false_eq_true]
    rw [show i = k by omega]
  | succ m ih =>
    intro i hi
    have c1 : ¬ (k : Int) ≤ i := by omega
    have e1 : (i : Int) + 1 = ((i + 1 : Nat) : Int) := by omega
    have g1 := m4 i (by omega)
    have e2 : ((P (i + 1) : Nat) : Int) - P i = ((P (i + 1) - P i : Nat) : Int) := by omega
    have e3 : ((P (i + 1) - P i : Nat) : Int) * ((br A B i : Nat) : Int) = ((bst P A B i : Nat) : Int) := (Int.natCast_mul _ _).symm
    have e4 : ((sm (bst P A B) i : Nat) : Int) + ((bst P A B i : Nat) : Int) = ((sm (bst P A B) (i + 1) : Nat) : Int) := (Int.natCast_add _ _).symm
    have h9 := ih (i + 1) (by omega)
    rw [r132_4]
    simp (disch := omega) only [r132_0, r132_1, r132_2, r132_3, r132_5, r132_6, r132_9, r132_10, r132_11, r132_14, r132_15, r132_16, r132_17, r132_20, r132_21, r132_24, r132_25, r132_28, r132_29, r132_30, r132_31, r132_34, r132_35, r132_36, r132_37, r132_40, r132_43, r132_44, ha, hI.1, iI_le, c1, s_placeAtG hI, Int.toNat_natCast, iI_add, e1, iI_sub, e2, s_barLen hI ha hA m7 (show i < 11 by omega), iI_mul, e3, e4, h9, kl_n, kl_i, kl_r, kl_z, kl_l, kl_d, catS_0, catS_c, cat_i, cat_l, cat_d, cat_r, cat_n, kC_r, kC_x, Option.bind_some, Option.toList_some, Option.toList_none, List.cons_append, List.nil_append, gB0, gB1, gB2, gB3, gB4, rvB, nI_iI, i0, i1, l0_, wr_s, aup_s, and_true, true_and, and_self, eq_self, if_true, if_false, Nat.zero_le, Nat.reduceAdd, Nat.reduceLeDiff, gN_I, gN_L, gN_P, bI_0, bI_ok, z0, z1, Bool.true_eq, Bool.false_eq_true, not_true_eq_false, not_false_eq_true]
theorem s_startOf (hI : mkI h (a + 1) n P A B) (ha : h a = some (aB 3 [.ref (a + 1)])) (hM : mkOk n P A B) (hA : ∀ i, A i ≤ 16) {k : Nat} (hk : k < n) : aE (d + 5) 132 [.ref a, .int (iI k)] (h, r) = some (.inl (some (.int (iI (sm (bst P A B) k)))), (h, r)) := by
  have hl := start_loop (d := d) (r := r) hI ha hM hA hk k 0 (by omega)
  rw [show sm (bst P A B) 0 = 0 from rfl, show ((0 : Nat) : Int) = 0 from rfl] at hl
  simp only [e132, r132_0, r132_1, r132_2, r132_3, r132_5, r132_6, r132_9, r132_10, r132_11, r132_14, r132_15, r132_16, r132_17, r132_20, r132_21, r132_24, r132_25, r132_28, r132_29, r132_30, r132_31, r132_34, r132_35, r132_36, r132_37, r132_40, r132_43, r132_44, hl, kl_n, kl_i, kl_r, kl_z, kl_l, kl_d, catS_0, catS_c, cat_i, cat_l, cat_d, cat_r, cat_n, kC_r, kC_x, Option.bind_some, Option.toList_some, Option.toList_none, List.cons_append, List.nil_append, gB0, gB1, gB2, gB3, gB4, rvB, nI_iI, i0, i1, l0_, wr_s, aup_s, and_true, true_and, and_self, eq_self, if_true, if_false, Nat.zero_le, Nat.reduceAdd, Nat.reduceLeDiff, gN_I, gN_L, gN_P, bI_0, bI_ok, z0, z1, Bool.true_eq, Bool.false_eq_true, not_true_eq_false, not_false_eq_true]
theorem bsm_le (hM : mkOk n P A B) (hA : ∀ i, A i ≤ 16) {k : Nat} (hk : k ≤ 11) : sm (bst P A B) k ≤ 648738816 := by
  have := sm_le (g := bst P A B) (b := 9599 * 6144) (fun i => bst_le B i (hM.2.2.2.2.1 (i + 1)) (hA i)) k
  have h2 : k * (9599 * 6144) ≤ 11 * (9599 * 6144) := Nat.mul_le_mul_right _ hk
  omega
theorem meter_loop (hI : mkI h (a + 1) n P A B) (ha : h a = some (aB 3 [.ref (a + 1)])) (hM : mkOk n P A B) (hA : ∀ i, A i ≤ 16) {t : Nat} (ht : t < 2147483648) : ∀ m i : Nat, i + 1 + m = n →
    L (d + 4) 133 7 [some (.ref a), some (.int (iI t)), some (.int (iI (sm (bst P A B) i))), some (.int (iI (lu (sm (bst P A B)) t (i + 1)))), some (.int (iI ((i + 1 : Nat) : Int)))] [] (h, r) = some (.inl (some (.int (iI (lu (sm (bst P A B)) t n)))), (h, r)) := by
  have hW := mkI_id hI
  have e0 := s_msize (d := d + 3) (a := a + 1) (n := n) (h := h) (r := r) (P := P) (A := A) (B := B)
  rw [hW] at e0
  have hM' := hM
  obtain ⟨m1, m2, m3, m4, m5, m6, m7⟩ := hM'
  intro m
  induction m with
  | zero =>
    intro i hi
    have c1 : (n : Int) ≤ ((i + 1 : Nat) : Int) := by omega
    rw [r133_7]
    simp (disch := omega) only [r133_0, r133_1, r133_2, r133_3, r133_4, r133_5, r133_9, r133_10, r133_13, r133_16, r133_19, r133_20, r133_21, r133_24, r133_26, r133_29, r133_30, r133_33, r133_35, r133_36, r133_37, r133_40, r133_41, r133_42, r133_44, r133_45, r133_46, r133_49, r133_50, r133_51, r133_52, r133_53, r133_54, r133_57, r133_59, r133_60, r133_63, r133_66, r133_67, ha, hI.1, e0, iI_le, c1, kl_n, kl_i, kl_r, kl_z, kl_l, kl_d, catS_0, catS_c, cat_i, cat_l, cat_d, cat_r, cat_n, kC_r, kC_x, Option.bind_some, Option.toList_some, Option.toList_none, List.cons_append, List.nil_append, gB0, gB1, gB2, gB3, gB4, rvB, nI_iI, i0, i1, l0_, wr_s, aup_s, and_true, true_and, and_self, eq_self, if_true, if_false, Nat.zero_le, Nat.reduceAdd, Nat.reduceLeDiff, gN_I, gN_L, gN_P, bI_0, bI_ok, z0, z1, Bool.true_eq, Bool.false_eq_true, not_true_eq_false, not_false_eq_true]
    rw [show i + 1 = n by omega]
  | succ m ih =>
    intro i hi
    have c1 : ¬ (n : Int) ≤ ((i + 1 : Nat) : Int) := by omega
    have e1 : ((i + 1 : Nat) : Int) - 1 = (i : Int) := by omega
    have e5 : ((i + 1 : Nat) : Int) + 1 = ((i + 1 + 1 : Nat) : Int) := by omega
    have g1 := m4 i (by omega)
    have g2 := bsm_le hM hA (k := i + 1) (by omega)
    have e2 : ((P (i + 1) : Nat) : Int) - P i = ((P (i + 1) - P i : Nat) : Int) := by omega
    have e3 : ((P (i + 1) - P i : Nat) : Int) * ((br A B i : Nat) : Int) = ((bst P A B i : Nat) : Int) := (Int.natCast_mul _ _).symm
    have e4 : ((sm (bst P A B) i : Nat) : Int) + ((bst P A B i : Nat) : Int) = ((sm (bst P A B) (i + 1) : Nat) : Int) := (Int.natCast_add _ _).symm
    have h9 := ih (i + 1) (by omega)
    rw [r133_7]
    by_cases q : sm (bst P A B) (i + 1) ≤ t
    · have c2 : ¬ (t : Int) < ((sm (bst P A B) (i + 1) : Nat) : Int) := by omega
      rw [show lu (sm (bst P A B)) t (i + 1 + 1) = i + 1 from if_pos q] at h9
      simp (disch := omega) only [r133_0, r133_1, r133_2, r133_3, r133_4, r133_5, r133_9, r133_10, r133_13, r133_16, r133_19, r133_20, r133_21, r133_24, r133_26, r133_29, r133_30, r133_33, r133_35, r133_36, r133_37, r133_40, r133_41, r133_42, r133_44, r133_45, r133_46, r133_49, r133_50, r133_51, r133_52, r133_53, r133_54, r133_57, r133_59, r133_60, r133_63, r133_66, r133_67, ha, hI.1, e0, iI_le, c1, s_placeAtG hI, Int.toNat_natCast, iI_sub, e1, e2, s_barLen hI ha hA m7 (show i < 11 by omega), iI_mul, e3, iI_add, e4, iI_lt, c2, e5, h9, kl_n, kl_i, kl_r, kl_z, kl_l, kl_d, catS_0, catS_c, cat_i, cat_l, cat_d, cat_r, cat_n, kC_r, kC_x, Option.bind_some, Option.toList_some, Option.toList_none, List.cons_append, List.nil_append, gB0, gB1, gB2, gB3, gB4, rvB, nI_iI, i0, i1, l0_, wr_s, aup_s, and_true, true_and, and_self, eq_self, if_true, if_false, Nat.zero_le, Nat.reduceAdd, Nat.reduceLeDiff, gN_I, gN_L, gN_P, bI_0, bI_ok, z0, z1, Bool.true_eq, Bool.false_eq_true, not_true_eq_false, not_false_eq_true]
    · have c2 : (t : Int) < ((sm (bst P A B) (i + 1) : Nat) : Int) := by omega
      rw [show lu (sm (bst P A B)) t (i + 1 + 1) = lu (sm (bst P A B)) t (i + 1) from if_neg q] at h9
      simp (disch := omega) only [r133_0, r133_1, r133_2, r133_3, r133_4, r133_5, r133_9, r133_10, r133_13, r133_16, r133_19, r133_20, r133_21, r133_24, r133_26, r133_29, r133_30, r133_33, r133_35, r133_36, r133_37, r133_40, r133_41, r133_42, r133_44, r133_45, r133_46, r133_49, r133_50, r133_51, r133_52, r133_53, r133_54, r133_57, r133_59, r133_60, r133_63, r133_66, r133_67, ha, hI.1, e0, iI_le, c1, s_placeAtG hI, Int.toNat_natCast, iI_sub, e1, e2, s_barLen hI ha hA m7 (show i < 11 by omega), iI_mul, e3, iI_add, e4, iI_lt, c2, e5, h9, kl_n, kl_i, kl_r, kl_z, kl_l, kl_d, catS_0, catS_c, cat_i, cat_l, cat_d, cat_r, cat_n, kC_r, kC_x, Option.bind_some, Option.toList_some, Option.toList_none, List.cons_append, List.nil_append, gB0, gB1, gB2, gB3, gB4, rvB, nI_iI, i0, i1, l0_, wr_s, aup_s, and_true, true_and, and_self, eq_self, if_true, if_false, Nat.zero_le, Nat.reduceAdd, Nat.reduceLeDiff, gN_I, gN_L, gN_P, bI_0, bI_ok, z0, z1, Bool.true_eq, Bool.false_eq_true, not_true_eq_false, not_false_eq_true]
theorem s_meterAt (hI : mkI h (a + 1) n P A B) (ha : h a = some (aB 3 [.ref (a + 1)])) (hM : mkOk n P A B) (hA : ∀ i, A i ≤ 16) {t : Nat} (ht : t < 2147483648) : aE (d + 5) 133 [.ref a, .int (iI t)] (h, r) = some (.inl (some (.int (iI (lu (sm (bst P A B)) t n)))), (h, r)) := by
  have hn := hM.1
  have hl := meter_loop (d := d) (r := r) hI ha hM hA ht (n - 1) 0 (by omega)
  rw [show lu (sm (bst P A B)) t (0 + 1) = 0 from if_pos (Nat.zero_le _), show sm (bst P A B) 0 = 0 from rfl, show ((0 : Nat) : Int) = 0 from rfl, show ((0 + 1 : Nat) : Int) = 1 from rfl] at hl
  simp only [e133, r133_0, r133_1, r133_2, r133_3, r133_4, r133_5, r133_9, r133_10, r133_13, r133_16, r133_19, r133_20, r133_21, r133_24, r133_26, r133_29, r133_30, r133_33, r133_35, r133_36, r133_37, r133_40, r133_41, r133_42, r133_44, r133_45, r133_46, r133_49, r133_50, r133_51, r133_52, r133_53, r133_54, r133_57, r133_59, r133_60, r133_63, r133_66, r133_67, hl, kl_n, kl_i, kl_r, kl_z, kl_l, kl_d, catS_0, catS_c, cat_i, cat_l, cat_d, cat_r, cat_n, kC_r, kC_x, Option.bind_some, Option.toList_some, Option.toList_none, List.cons_append, List.nil_append, gB0, gB1, gB2, gB3, gB4, rvB, nI_iI, i0, i1, l0_, wr_s, aup_s, and_true, true_and, and_self, eq_self, if_true, if_false, Nat.zero_le, Nat.reduceAdd, Nat.reduceLeDiff, gN_I, gN_L, gN_P, bI_0, bI_ok, z0, z1, Bool.true_eq, Bool.false_eq_true, not_true_eq_false, not_false_eq_true]
/-- the bar of a tick -/
def bAt (n : Nat) (P A B : Nat → Nat) (t : Nat) : Nat := P (lu (sm (bst P A B)) t n) + (t - sm (bst P A B) (lu (sm (bst P A B)) t n)) / br A B (lu (sm (bst P A B)) t n)
def btAt (n : Nat) (P A B : Nat → Nat) (t : Nat) : Nat := (t - sm (bst P A B) (lu (sm (bst P A B)) t n)) % br A B (lu (sm (bst P A B)) t n) / bl B (lu (sm (bst P A B)) t n)
def bSt (n : Nat) (P A B : Nat → Nat) (v : Nat) : Nat := sm (bst P A B) (lu P v n) + (v - P (lu P v n)) * br A B (lu P v n)
theorem s_barAt (hI : mkI h (a + 1) n P A B) (ha : h a = some (aB 3 [.ref (a + 1)])) (hM : mkOk n P A B) (hA : ∀ i, A i ≤ 16) {t : Nat} (ht : t < 2147483648) : aE (d + 6) 134 [.ref a, .int (iI t)] (h, r) = some (.inl (some (.int (iI (bAt n P A B t)))), (h, r)) := by
  have g1 := lu_lt (sm (bst P A B)) t hM.1
  have g2 := lu_le (P := sm (bst P A B)) (v := t) (Nat.zero_le _) n
  have hm := s_meterAt (d := d) (r := r) hI ha hM hA ht
  have hM' := hM
  obtain ⟨m1, m2, m3, m4, m5, m6, m7⟩ := hM'
  unfold bAt
  generalize lu (sm (bst P A B)) t n = k at g1 g2 hm ⊢
  have g3 := br_pos A B k
  have g4 := br_le B k (hA k)
  have g5 := m5 k
  have hs := s_startOf (d := d) (r := r) hI ha hM hA (show k < n from g1)
  have hb := s_barLen (d := d + 1) (r := r) hI ha hA m7 (show k < 11 by omega)
  generalize sm (bst P A B) k = s at g2 hs ⊢
  generalize br A B k = w at g3 g4 hb ⊢
  have c1 : ¬ (w : Int) ≤ 0 := by omega
  have c2 : ¬ (w : Int) = 0 := by omega
  have e1 : (t : Int) - (s : Int) = ((t - s : Nat) : Int) := by omega
  have e2 := cdiv (t - s) w
  have e3 : ((P k : Nat) : Int) + (((t - s) / w : Nat) : Int) = ((P k + (t - s) / w : Nat) : Int) := (Int.natCast_add _ _).symm
  simp (disch := omega) only [e134, r134_0, r134_1, r134_2, r134_5, r134_6, r134_7, r134_8, r134_11, r134_12, r134_13, r134_16, r134_17, r134_18, r134_19, r134_22, r134_23, r134_24, r134_25, r134_28, r134_29, r134_31, r134_32, r134_35, r134_36, r134_39, r134_41, r134_42, ha, hI.1, hm, hb, hs, iI_le, c1, iI_eq, c2, iI_sub, e1, iI_div, e2, s_placeAtG hI, Int.toNat_natCast, iI_add, e3, kl_n, kl_i, kl_r, kl_z, kl_l, kl_d, catS_0, catS_c, cat_i, cat_l, cat_d, cat_r, cat_n, kC_r, kC_x, Option.bind_some, Option.toList_some, Option.toList_none, List.cons_append, List.nil_append, gB0, gB1, gB2, gB3, gB4, rvB, nI_iI, i0, i1, l0_, wr_s, aup_s, and_true, true_and, and_self, eq_self, if_true, if_false, Nat.zero_le, Nat.reduceAdd, Nat.reduceLeDiff, gN_I, gN_L, gN_P, bI_0, bI_ok, z0, z1, Bool.true_eq, Bool.false_eq_true, not_true_eq_false, not_false_eq_true]
theorem s_beatAt (hI : mkI h (a + 1) n P A B) (ha : h a = some (aB 3 [.ref (a + 1)])) (hM : mkOk n P A B) (hA : ∀ i, A i ≤ 16) {t : Nat} (ht : t < 2147483648) : aE (d + 6) 135 [.ref a, .int (iI t)] (h, r) = some (.inl (some (.int (iI (btAt n P A B t)))), (h, r)) := by
  have g1 := lu_lt (sm (bst P A B)) t hM.1
  have g2 := lu_le (P := sm (bst P A B)) (v := t) (Nat.zero_le _) n
  have hm := s_meterAt (d := d) (r := r) hI ha hM hA ht
  have hM' := hM
  obtain ⟨m1, m2, m3, m4, m5, m6, m7⟩ := hM'
  unfold btAt
  generalize lu (sm (bst P A B)) t n = k at g1 g2 hm ⊢
  have g3 := br_pos A B k
  have g4 := br_le B k (hA k)
  have g6 := bl_pos B k
  have g7 := bl_le B k
  have hs := s_startOf (d := d) (r := r) hI ha hM hA (show k < n from g1)
  have hb := s_barLen (d := d + 1) (r := r) hI ha hA m7 (show k < 11 by omega)
  have hl := s_beatLen (d := d + 2) (r := r) hI ha m7 (show k < 11 by omega)
  generalize sm (bst P A B) k = s at g2 hs ⊢
  generalize br A B k = w at g3 g4 hb ⊢
  generalize bl B k = u at g6 g7 hl ⊢
  have c1 : ¬ (w : Int) ≤ 0 := by omega
  have c2 : ¬ (w : Int) = 0 := by omega
  have c3 : ¬ (u : Int) ≤ 0 := by omega
  have c4 : ¬ (u : Int) = 0 := by omega
  have e1 : (t : Int) - (s : Int) = ((t - s : Nat) : Int) := by omega
  have e2 := cdiv (t - s) w
  have e3 : ((t - s : Nat) : Int) - (((t - s) / w : Nat) : Int) * (w : Int) = (((t - s) % w : Nat) : Int) := by
    have := Nat.div_add_mod (t - s) w
    have h2 : ((w * ((t - s) / w) + (t - s) % w : Nat) : Int) = ((t - s : Nat) : Int) := by rw [this]
    rw [Int.natCast_add, Int.natCast_mul, Int.mul_comm] at h2
    omega
  have e4 := cdiv ((t - s) % w) u
  have g8 : (t - s) % w < w := Nat.mod_lt _ g3
  generalize (t - s) % w = y at e3 e4 g8 ⊢
  have g9 := Nat.div_le_self (t - s) w
  generalize (t - s) / w = y2 at e2 e3 g9
  simp (disch := omega) only [e135, r135_0, r135_1, r135_2, r135_5, r135_6, r135_7, r135_8, r135_11, r135_12, r135_13, r135_14, r135_17, r135_19, r135_20, r135_23, r135_25, r135_28, r135_29, r135_30, r135_31, r135_34, r135_35, r135_36, r135_37, r135_39, r135_40, r135_43, r135_44, ha, hI.1, hm, hb, hs, hl, iI_le, c1, c3, iI_eq, c2, c4, iI_sub, e1, iI_div, e2, iI_mul, e3, e4, kl_n, kl_i, kl_r, kl_z, kl_l, kl_d, catS_0, catS_c, cat_i, cat_l, cat_d, cat_r, cat_n, kC_r, kC_x, Option.bind_some, Option.toList_some, Option.toList_none, List.cons_append, List.nil_append, gB0, gB1, gB2, gB3, gB4, rvB, nI_iI, i0, i1, l0_, wr_s, aup_s, and_true, true_and, and_self, eq_self, if_true, if_false, Nat.zero_le, Nat.reduceAdd, Nat.reduceLeDiff, gN_I, gN_L, gN_P, bI_0, bI_ok, z0, z1, Bool.true_eq, Bool.false_eq_true, not_true_eq_false, not_false_eq_true]
theorem s_startOfBar (hI : mkI h (a + 1) n P A B) (ha : h a = some (aB 3 [.ref (a + 1)])) (hM : mkOk n P A B) (hA : ∀ i, A i ≤ 16) {v : Nat} (hv : v < 2147483648) : aE (d + 6) 136 [.ref a, .int (iI v)] (h, r) = some (.inl (some (.int (iI (bSt n P A B v)))), (h, r)) := by
  have hM' := hM
  obtain ⟨m1, m2, m3, m4, m5, m6, m7⟩ := hM'
  have g1 := lu_lt P v m1
  have g2 := lu_le (P := P) (v := v) (by omega) n
  have hm := s_lastUpTo (d := d + 2) (a := a + 1) (h := h) (r := r) (P := P) (A := A) (B := B) m2 hv (fun i => by have := m5 i; omega)
  rw [mkI_id hI] at hm
  unfold bSt
  generalize lu P v n = k at g1 g2 hm ⊢
  have g5 := m5 k
  have hs := s_startOf (d := d) (r := r) hI ha hM hA (show k < n from g1)
  have hb := s_barLen (d := d + 1) (r := r) hI ha hA m7 (show k < 11 by omega)
  generalize sm (bst P A B) k = s at hs ⊢
  generalize br A B k = w at hb ⊢
  have e1 : (v : Int) - ((P k : Nat) : Int) = ((v - P k : Nat) : Int) := by omega
  have e2 : ((v - P k : Nat) : Int) * (w : Int) = (((v - P k) * w : Nat) : Int) := (Int.natCast_mul _ _).symm
  have e3 : (s : Int) + (((v - P k) * w : Nat) : Int) = ((s + (v - P k) * w : Nat) : Int) := (Int.natCast_add _ _).symm
  simp (disch := omega) only [e136, r136_0, r136_1, r136_4, r136_5, r136_8, r136_9, r136_10, r136_11, r136_14, r136_15, r136_16, r136_19, r136_20, r136_23, r136_24, r136_25, r136_26, r136_29, r136_30, r136_31, ha, hI.1, hm, hb, hs, s_placeAtG hI, Int.toNat_natCast, iI_sub, e1, iI_mul, e2, iI_add, e3, kl_n, kl_i, kl_r, kl_z, kl_l, kl_d, catS_0, catS_c, cat_i, cat_l, cat_d, cat_r, cat_n, kC_r, kC_x, Option.bind_some, Option.toList_some, Option.toList_none, List.cons_append, List.nil_append, gB0, gB1, gB2, gB3, gB4, rvB, nI_iI, i0, i1, l0_, wr_s, aup_s, and_true, true_and, and_self, eq_self, if_true, if_false, Nat.zero_le, Nat.reduceAdd, Nat.reduceLeDiff, gN_I, gN_L, gN_P, bI_0, bI_ok, z0, z1, Bool.true_eq, Bool.false_eq_true, not_true_eq_false, not_false_eq_true]
end
