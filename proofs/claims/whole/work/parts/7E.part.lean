/-! ===== the library sorts a row: parted by two of its values, or by one ===== -/
/-- below l less than x, from u on more than y, from k up to u between them -/
def PI (lo e x y l k u : Nat) (D : Nat → Nat) : Prop := (lo ≤ l ∧ l < k ∧ k ≤ u ∧ u ≤ e) ∧ (∀ i, lo < i → i ≤ l → D i < x) ∧ (∀ i, k ≤ i → i < u → x ≤ D i ∧ D i ≤ y) ∧ ∀ i, u ≤ i → i < e → y < D i
theorem PI_m {lo e x y l k u : Nat} {D : Nat → Nat} (h : PI lo e x y l (k + 1) u D) (hk : l < k) (h1 : x ≤ D k) (h2 : D k ≤ y) : PI lo e x y l k u D := by
  obtain ⟨g1, g2, g3, g4⟩ := h
  refine ⟨by omega, g2, fun i h3 h4 => ?_, g4⟩
  by_cases q : i = k
  · rw [q]
    exact ⟨h1, h2⟩
  · exact g3 i (by omega) h4
theorem PI_r {lo e x y l k u : Nat} {D : Nat → Nat} (h : PI lo e x y l (k + 1) (u + 1) D) (hk : l < k) (h1 : y < D k) : PI lo e x y l k u (upN (upN D k (D u)) u (D k)) := by
  obtain ⟨g1, g2, g3, g4⟩ := h
  refine ⟨by omega, fun i h3 h4 => ?_, fun i h3 h4 => ?_, fun i h3 h4 => ?_⟩
  · rw [upN_o (by omega), upN_o (by omega)]
    exact g2 i h3 h4
  · rw [upN_o (by omega)]
    by_cases q : i = k
    · rw [q, upN_at]
      exact g3 u (by omega) (by omega)
    · rw [upN_o q]
      exact g3 i (by omega) (by omega)
  · by_cases q : i = u
    · rw [q, upN_at]
      exact h1
    · rw [upN_o q, upN_o (by omega)]
      exact g4 i (by omega) h4
theorem PI_l {lo e x y l k u t : Nat} {D : Nat → Nat} (h : PI lo e x y l (k + 1) u D) (hx : D k < x) (ht : l < t ∧ t < k) (h1 : ∀ i, l < i → i < t → D i < x) (h2 : x ≤ D t) (h3 : D t ≤ y) : PI lo e x y t k u (upN (upN D k (D t)) t (D k)) := by
  obtain ⟨g1, g2, g3, g4⟩ := h
  refine ⟨by omega, fun i h5 h6 => ?_, fun i h5 h6 => ?_, fun i h5 h6 => ?_⟩
  · by_cases q : i = t
    · rw [q, upN_at]
      exact hx
    · rw [upN_o q, upN_o (by omega)]
      by_cases q2 : i ≤ l
      · exact g2 i h5 q2
      · exact h1 i (by omega) (by omega)
  · rw [upN_o (by omega)]
    by_cases q : i = k
    · rw [q, upN_at]
      exact ⟨h2, h3⟩
    · rw [upN_o q]
      exact g3 i (by omega) h6
  · rw [upN_o (by omega), upN_o (by omega)]
    exact g4 i h5 h6
theorem PI_b {lo e x y l k u t : Nat} {D : Nat → Nat} (h : PI lo e x y l (k + 1) (u + 1) D) (hx : D k < x) (ht : l < t ∧ t < k) (h1 : ∀ i, l < i → i < t → D i < x) (h3 : y < D t) : PI lo e x y t k u (upN (upN (upN D k (D u)) u (D t)) t (D k)) := by
  obtain ⟨g1, g2, g3, g4⟩ := h
  refine ⟨by omega, fun i h5 h6 => ?_, fun i h5 h6 => ?_, fun i h5 h6 => ?_⟩
  · by_cases q : i = t
    · rw [q, upN_at]
      exact hx
    · rw [upN_o q, upN_o (by omega), upN_o (by omega)]
      by_cases q2 : i ≤ l
      · exact g2 i h5 q2
      · exact h1 i (by omega) (by omega)
  · rw [upN_o (by omega), upN_o (by omega)]
    by_cases q : i = k
    · rw [q, upN_at]
      exact g3 u (by omega) (by omega)
    · rw [upN_o q]
      exact g3 i (by omega) (by omega)
  · rw [upN_o (by omega)]
    by_cases q : i = u
    · rw [q, upN_at]
      exact h3
    · rw [upN_o q, upN_o (by omega)]
      exact g4 i (by omega) h6
theorem PI_k {lo e x y l k u : Nat} {D : Nat → Nat} (h : PI lo e x y l (k + 1) u D) (hk : l < k) (h1 : ∀ i, l < i → i ≤ k → D i < x) : PI lo e x y k (k + 1) u D := by
  obtain ⟨g1, g2, g3, g4⟩ := h
  refine ⟨by omega, fun i h5 h6 => ?_, g3, g4⟩
  by_cases q2 : i ≤ l
  · exact g2 i h5 q2
  · exact h1 i (by omega) h6
section
variable {d : Nat} {h : aHf} {r : Nat × Nat × Nat × Nat} {p N b lo hi e sz : Nat}
theorem up_529 {x q : Nat} {D : Nat → Nat} (hN : N ≤ 2000) (hq : q < N) (hx : bd x) (hD : ∀ k, bd (D k)) (hs : x ≤ D q) : ∀ m l : Nat, l + m + 1 = q → ∃ t, (l ≤ t ∧ t < q) ∧ (∀ i, l < i → i ≤ t → D i < x) ∧ ∀ l7 l8 l9 l10 l11 l12 l13 l16 l19 l20 l21 l22 l23 l24 : Option Value,
    L d 279 529 [some .null, some (.ref p), some (.int (iI b)), some (.int (iI lo)), some (.int (iI hi)), some (.int (iI e)), some (.int (iI sz)), l7, l8, l9, l10, l11, l12, l13, none, some (.int (iI l)), l16, some (.long (lI x)), none, l19, l20, l21, l22, l23, l24] [] (lw h p N D, r) = L d 279 545 [some .null, some (.ref p), some (.int (iI b)), some (.int (iI lo)), some (.int (iI hi)), some (.int (iI e)), some (.int (iI sz)), l7, l8, l9, l10, l11, l12, l13, none, some (.int (iI (t + 1 : Nat))), l16, some (.long (lI x)), none, l19, l20, l21, l22, l23, l24] [] (lw h p N D, r) := by
  have b2 : x < 4398046511104 := hx
  have stop : ∀ l : Nat, l + 1 ≤ q → x ≤ D (l + 1) → ∃ t, (l ≤ t ∧ t < q) ∧ (∀ i, l < i → i ≤ t → D i < x) ∧ ∀ l7 l8 l9 l10 l11 l12 l13 l16 l19 l20 l21 l22 l23 l24 : Option Value,
      L d 279 529 [some .null, some (.ref p), some (.int (iI b)), some (.int (iI lo)), some (.int (iI hi)), some (.int (iI e)), some (.int (iI sz)), l7, l8, l9, l10, l11, l12, l13, none, some (.int (iI l)), l16, some (.long (lI x)), none, l19, l20, l21, l22, l23, l24] [] (lw h p N D, r) = L d 279 545 [some .null, some (.ref p), some (.int (iI b)), some (.int (iI lo)), some (.int (iI hi)), some (.int (iI e)), some (.int (iI sz)), l7, l8, l9, l10, l11, l12, l13, none, some (.int (iI (t + 1 : Nat))), l16, some (.long (lI x)), none, l19, l20, l21, l22, l23, l24] [] (lw h p N D, r) := by
    intro l hl hs2
    have e1 : (l : Int) + 1 = ((l + 1 : Nat) : Int) := by omega
    have b1 : D (l + 1) < 4398046511104 := hD _
    refine ⟨l, by omega, fun i h1 h2 => by omega, fun l7 l8 l9 l10 l11 l12 l13 l16 l19 l20 l21 l22 l23 l24 => ?_⟩
    rw [r279_529]
    simp (disch := omega) only [r279_530, r279_533, r279_535, r279_536, r279_538, r279_539, r279_542, iI_add, e1, lw_g, lc_ge, eL_le, hs2, kl_n, kl_i, kl_r, kl_z, kl_l, kl_d, catS_0, catS_c, cat_i, cat_l, cat_d, cat_r, cat_n, kC_r, kC_x, Option.bind_some, Option.toList_some, Option.toList_none, List.cons_append, List.nil_append, gB0, gB1, gB2, gB3, gB4, rvB, nI_iI, i0, i1, l0_, wr_s, aup_s, and_true, true_and, and_self, eq_self, if_true, if_false, Nat.zero_le, Nat.reduceAdd, Nat.reduceLeDiff, gN_I, gN_L, gN_P, bI_0, bI_ok, z0, z1, Bool.true_eq, Bool.false_eq_true, not_true_eq_false, not_false_eq_true]
  intro m
  induction m with
  | zero =>
    intro l hl
    exact stop l (by omega) (by rw [show l + 1 = q by omega]; exact hs)
  | succ m ih =>
    intro l hl
    by_cases q1 : x ≤ D (l + 1)
    · exact stop l (by omega) q1
    · have e1 : (l : Int) + 1 = ((l + 1 : Nat) : Int) := by omega
      have b1 : D (l + 1) < 4398046511104 := hD _
      obtain ⟨t, t1, t2, t3⟩ := ih (l + 1) (by omega)
      refine ⟨t, by omega, fun i h1 h2 => ?_, fun l7 l8 l9 l10 l11 l12 l13 l16 l19 l20 l21 l22 l23 l24 => ?_⟩
      · by_cases q2 : i = l + 1
        · rw [q2]
          omega
        · exact t2 i (by omega) h2
      rw [r279_529]
      simp (disch := omega) only [r279_530, r279_533, r279_535, r279_536, r279_538, r279_539, r279_542, iI_add, e1, lw_g, lc_ge, eL_le, q1, kl_n, kl_i, kl_r, kl_z, kl_l, kl_d, catS_0, catS_c, cat_i, cat_l, cat_d, cat_r, cat_n, kC_r, kC_x, Option.bind_some, Option.toList_some, Option.toList_none, List.cons_append, List.nil_append, gB0, gB1, gB2, gB3, gB4, rvB, nI_iI, i0, i1, l0_, wr_s, aup_s, and_true, true_and, and_self, eq_self, if_true, if_false, Nat.zero_le, Nat.reduceAdd, Nat.reduceLeDiff, gN_I, gN_L, gN_P, bI_0, bI_ok, z0, z1, Bool.true_eq, Bool.false_eq_true, not_true_eq_false, not_false_eq_true]
      exact t3 _ _ _ _ _ _ _ _ _ _ _ _ _ _
theorem dn_545 {y q l : Nat} {D : Nat → Nat} (hN : N ≤ 2000) (hy : bd y) (hD : ∀ k, bd (D k)) (hs : D q ≤ y) : ∀ m u : Nat, u = q + 1 + m → u ≤ N → ∃ v, (q ≤ v ∧ v < u) ∧ (∀ i, v < i → i < u → y < D i) ∧ ∀ l7 l8 l9 l10 l11 l12 l13 l14 l17 l18 l21 l22 l23 l24 : Option Value,
    L d 279 545 [some .null, some (.ref p), some (.int (iI b)), some (.int (iI lo)), some (.int (iI hi)), some (.int (iI e)), some (.int (iI sz)), l7, l8, l9, l10, l11, l12, l13, l14, some (.int (iI l)), some (.int (iI u)), l17, l18, some (.long (lI y)), none, l21, l22, l23, l24] [] (lw h p N D, r) = L d 279 561 [some .null, some (.ref p), some (.int (iI b)), some (.int (iI lo)), some (.int (iI hi)), some (.int (iI e)), some (.int (iI sz)), l7, l8, l9, l10, l11, l12, l13, l14, some (.int (iI l)), some (.int (iI v)), l17, l18, some (.long (lI y)), none, l21, l22, l23, l24] [] (lw h p N D, r) := by
  have b2 : y < 4398046511104 := hy
  have stop : ∀ u : Nat, q ≤ u → u < N → D u ≤ y → ∃ v, (q ≤ v ∧ v < u + 1) ∧ (∀ i, v < i → i < u + 1 → y < D i) ∧ ∀ l7 l8 l9 l10 l11 l12 l13 l14 l17 l18 l21 l22 l23 l24 : Option Value,
      L d 279 545 [some .null, some (.ref p), some (.int (iI b)), some (.int (iI lo)), some (.int (iI hi)), some (.int (iI e)), some (.int (iI sz)), l7, l8, l9, l10, l11, l12, l13, l14, some (.int (iI l)), some (.int (iI (u + 1 : Nat))), l17, l18, some (.long (lI y)), none, l21, l22, l23, l24] [] (lw h p N D, r) = L d 279 561 [some .null, some (.ref p), some (.int (iI b)), some (.int (iI lo)), some (.int (iI hi)), some (.int (iI e)), some (.int (iI sz)), l7, l8, l9, l10, l11, l12, l13, l14, some (.int (iI l)), some (.int (iI v)), l17, l18, some (.long (lI y)), none, l21, l22, l23, l24] [] (lw h p N D, r) := by
    intro u hu hu2 hs2
    have e1 : ((u + 1 : Nat) : Int) + -1 = ((u : Nat) : Int) := by omega
    have b1 : D u < 4398046511104 := hD _
    refine ⟨u, by omega, fun i h1 h2 => by omega, fun l7 l8 l9 l10 l11 l12 l13 l14 l17 l18 l21 l22 l23 l24 => ?_⟩
    rw [r279_545]
    simp (disch := omega) only [r279_546, r279_549, r279_551, r279_552, r279_554, r279_555, r279_558, iI_add, e1, lw_g, lc_le, eL_le, hs2, kl_n, kl_i, kl_r, kl_z, kl_l, kl_d, catS_0, catS_c, cat_i, cat_l, cat_d, cat_r, cat_n, kC_r, kC_x, Option.bind_some, Option.toList_some, Option.toList_none, List.cons_append, List.nil_append, gB0, gB1, gB2, gB3, gB4, rvB, nI_iI, i0, i1, l0_, wr_s, aup_s, and_true, true_and, and_self, eq_self, if_true, if_false, Nat.zero_le, Nat.reduceAdd, Nat.reduceLeDiff, gN_I, gN_L, gN_P, bI_0, bI_ok, z0, z1, Bool.true_eq, Bool.false_eq_true, not_true_eq_false, not_false_eq_true]
  intro m
  induction m with
  | zero =>
    intro u hu hu2
    obtain rfl : u = q + 1 := by omega
    exact stop q (Nat.le_refl _) (by omega) hs
  | succ m ih =>
    intro u hu hu2
    obtain ⟨w, rfl⟩ : ∃ w, u = w + 1 := ⟨u - 1, by omega⟩
    by_cases q1 : D w ≤ y
    · exact stop w (by omega) (by omega) q1
    · have e1 : ((w + 1 : Nat) : Int) + -1 = ((w : Nat) : Int) := by omega
      have b1 : D w < 4398046511104 := hD _
      obtain ⟨t, t1, t2, t3⟩ := ih w (by omega) (by omega)
      refine ⟨t, by omega, fun i h1 h2 => ?_, fun l7 l8 l9 l10 l11 l12 l13 l14 l17 l18 l21 l22 l23 l24 => ?_⟩
      · by_cases q2 : i = w
        · rw [q2]
          omega
        · exact t2 i h1 (by omega)
      rw [r279_545]
      simp (disch := omega) only [r279_546, r279_549, r279_551, r279_552, r279_554, r279_555, r279_558, iI_add, e1, lw_g, lc_le, eL_le, q1, kl_n, kl_i, kl_r, kl_z, kl_l, kl_d, catS_0, catS_c, cat_i, cat_l, cat_d, cat_r, cat_n, kC_r, kC_x, Option.bind_some, Option.toList_some, Option.toList_none, List.cons_append, List.nil_append, gB0, gB1, gB2, gB3, gB4, rvB, nI_iI, i0, i1, l0_, wr_s, aup_s, and_true, true_and, and_self, eq_self, if_true, if_false, Nat.zero_le, Nat.reduceAdd, Nat.reduceLeDiff, gN_I, gN_L, gN_P, bI_0, bI_ok, z0, z1, Bool.true_eq, Bool.false_eq_true, not_true_eq_false, not_false_eq_true]
      exact t3 _ _ _ _ _ _ _ _ _ _ _ _ _ _
theorem in_599 {x y z k u : Nat} {D : Nat → Nat} {l21 : Option Value} (hN : N ≤ 2000) (hk : k < N) (hx : bd x) (hD : ∀ k, bd (D k)) : ∀ m l : Nat, l + m = k →
    (∃ t, (l < t ∧ t ≤ k) ∧ (∀ i, l < i → i < t → D i < x) ∧ x ≤ D t ∧ ∀ l7 l8 l9 l10 l11 l12 l13 : Option Value, L d 279 599 [some .null, some (.ref p), some (.int (iI b)), some (.int (iI lo)), some (.int (iI hi)), some (.int (iI e)), some (.int (iI sz)), l7, l8, l9, l10, l11, l12, l13, none, some (.int (iI l)), some (.int (iI u)), some (.long (lI x)), none, some (.long (lI y)), none, l21, some (.int (iI k)), some (.long (lI z)), none] [] (lw h p N D, r) = L d 279 619 [some .null, some (.ref p), some (.int (iI b)), some (.int (iI lo)), some (.int (iI hi)), some (.int (iI e)), some (.int (iI sz)), l7, l8, l9, l10, l11, l12, l13, none, some (.int (iI t)), some (.int (iI u)), some (.long (lI x)), none, some (.long (lI y)), none, l21, some (.int (iI k)), some (.long (lI z)), none] [] (lw h p N D, r)) ∨
    ((∀ i, l < i → i ≤ k → D i < x) ∧ ∀ l7 l8 l9 l10 l11 l12 l13 : Option Value, L d 279 599 [some .null, some (.ref p), some (.int (iI b)), some (.int (iI lo)), some (.int (iI hi)), some (.int (iI e)), some (.int (iI sz)), l7, l8, l9, l10, l11, l12, l13, none, some (.int (iI l)), some (.int (iI u)), some (.long (lI x)), none, some (.long (lI y)), none, l21, some (.int (iI k)), some (.long (lI z)), none] [] (lw h p N D, r) = L d 279 693 [some .null, some (.ref p), some (.int (iI b)), some (.int (iI lo)), some (.int (iI hi)), some (.int (iI e)), some (.int (iI sz)), l7, l8, l9, l10, l11, l12, l13, none, some (.int (iI k)), some (.int (iI u)), some (.long (lI x)), none, some (.long (lI y)), none, l21, some (.int (iI k)), some (.long (lI z)), none] [] (lw h p N D, r)) := by
  have b2 : x < 4398046511104 := hx
  intro m
  induction m with
  | zero =>
    intro l hl
    obtain rfl : l = k := by omega
    refine Or.inr ⟨fun i h1 h2 => by omega, fun l7 l8 l9 l10 l11 l12 l13 => ?_⟩
    rw [r279_599]
    simp (disch := omega) only [r279_601, r279_603, iI_le, Int.le_refl, kl_n, kl_i, kl_r, kl_z, kl_l, kl_d, catS_0, catS_c, cat_i, cat_l, cat_d, cat_r, cat_n, kC_r, kC_x, Option.bind_some, Option.toList_some, Option.toList_none, List.cons_append, List.nil_append, gB0, gB1, gB2, gB3, gB4, rvB, nI_iI, i0, i1, l0_, wr_s, aup_s, and_true, true_and, and_self, eq_self, if_true, if_false, Nat.zero_le, Nat.reduceAdd, Nat.reduceLeDiff, gN_I, gN_L, gN_P, bI_0, bI_ok, z0, z1, Bool.true_eq, Bool.false_eq_true, not_true_eq_false, not_false_eq_true]
  | succ m ih =>
    intro l hl
    have e1 : (l : Int) + 1 = ((l + 1 : Nat) : Int) := by omega
    have c1 : ¬ (k : Int) ≤ l := by omega
    have b1 : D (l + 1) < 4398046511104 := hD _
    by_cases q : x ≤ D (l + 1)
    · have q3 : ¬ D (l + 1) < x := by omega
      refine Or.inl ⟨l + 1, by omega, fun i h1 h2 => by omega, q, fun l7 l8 l9 l10 l11 l12 l13 => ?_⟩
      rw [r279_599]
      simp (disch := omega) only [r279_601, r279_603, r279_606, r279_606n, r279_607, r279_610, r279_612, r279_613, r279_615, r279_616, iI_le, c1, iI_add, e1, lw_g, lc_lt, eL_lt, q3, kl_n, kl_i, kl_r, kl_z, kl_l, kl_d, catS_0, catS_c, cat_i, cat_l, cat_d, cat_r, cat_n, kC_r, kC_x, Option.bind_some, Option.toList_some, Option.toList_none, List.cons_append, List.nil_append, gB0, gB1, gB2, gB3, gB4, rvB, nI_iI, i0, i1, l0_, wr_s, aup_s, and_true, true_and, and_self, eq_self, if_true, if_false, Nat.zero_le, Nat.reduceAdd, Nat.reduceLeDiff, gN_I, gN_L, gN_P, bI_0, bI_ok, z0, z1, Bool.true_eq, Bool.false_eq_true, not_true_eq_false, not_false_eq_true]
    · have q3 : D (l + 1) < x := by omega
      have st : ∀ (l7 l8 l9 l10 l11 l12 l13 : Option Value), L d 279 599 [some .null, some (.ref p), some (.int (iI b)), some (.int (iI lo)), some (.int (iI hi)), some (.int (iI e)), some (.int (iI sz)), l7, l8, l9, l10, l11, l12, l13, none, some (.int (iI l)), some (.int (iI u)), some (.long (lI x)), none, some (.long (lI y)), none, l21, some (.int (iI k)), some (.long (lI z)), none] [] (lw h p N D, r) = L d 279 599 [some .null, some (.ref p), some (.int (iI b)), some (.int (iI lo)), some (.int (iI hi)), some (.int (iI e)), some (.int (iI sz)), l7, l8, l9, l10, l11, l12, l13, none, some (.int (iI (l + 1 : Nat))), some (.int (iI u)), some (.long (lI x)), none, some (.long (lI y)), none, l21, some (.int (iI k)), some (.long (lI z)), none] [] (lw h p N D, r) := by
        intro l7 l8 l9 l10 l11 l12 l13
        rw [r279_599]
        simp (disch := omega) only [r279_601, r279_603, r279_606, r279_606n, r279_607, r279_610, r279_612, r279_613, r279_615, r279_616, iI_le, c1, iI_add, e1, lw_g, lc_lt, eL_lt, q3, kl_n, kl_i, kl_r, kl_z, kl_l, kl_d, catS_0, catS_c, cat_i, cat_l, cat_d, cat_r, cat_n, kC_r, kC_x, Option.bind_some, Option.toList_some, Option.toList_none, List.cons_append, List.nil_append, gB0, gB1, gB2, gB3, gB4, rvB, nI_iI, i0, i1, l0_, wr_s, aup_s, and_true, true_and, and_self, eq_self, if_true, if_false, Nat.zero_le, Nat.reduceAdd, Nat.reduceLeDiff, gN_I, gN_L, gN_P, bI_0, bI_ok, z0, z1, Bool.true_eq, Bool.false_eq_true, not_true_eq_false, not_false_eq_true]
      rcases ih (l + 1) (by omega) with ⟨t, t1, t2, t3, t4⟩ | ⟨t2, t4⟩
      · refine Or.inl ⟨t, by omega, fun i h1 h2 => ?_, t3, fun l7 l8 l9 l10 l11 l12 l13 => by rw [st, t4]⟩
        by_cases q2 : i = l + 1
        · rw [q2]
          exact q3
        · exact t2 i (by omega) h2
      · refine Or.inr ⟨fun i h1 h2 => ?_, fun l7 l8 l9 l10 l11 l12 l13 => by rw [st, t4]⟩
        by_cases q2 : i = l + 1
        · rw [q2]
          exact q3
        · exact t2 i (by omega) h2
theorem pt_575 {x y : Nat} {l21 : Int32} (hN : N ≤ 2000) (he : e < N) (hx : bd x) (hy : bd y) (hxy : x < y) : ∀ (m l u k : Nat) (D : Nat → Nat), k = l + 1 + m → (∀ j, bd (D j)) → PI lo e x y l k u D → ∀ l23 l24 : Option Value, ∃ D' l' u' v22 v23 v24, PI lo e x y l' (l' + 1) u' D' ∧ prm (lo + 1) e D D' ∧ ∀ l7 l8 l9 l10 l11 l12 l13 : Option Value,
    L d 279 575 [some .null, some (.ref p), some (.int (iI b)), some (.int (iI lo)), some (.int (iI hi)), some (.int (iI e)), some (.int (iI sz)), l7, l8, l9, l10, l11, l12, l13, none, some (.int (iI l)), some (.int (iI u)), some (.long (lI x)), none, some (.long (lI y)), none, some (.int l21), some (.int (iI k)), l23, l24] [] (lw h p N D, r) = L d 279 696 [some .null, some (.ref p), some (.int (iI b)), some (.int (iI lo)), some (.int (iI hi)), some (.int (iI e)), some (.int (iI sz)), l7, l8, l9, l10, l11, l12, l13, none, some (.int (iI l')), some (.int (iI u')), some (.long (lI x)), none, some (.long (lI y)), none, some (.int l21), some (.int v22), v23, v24] [] (lw h p N D', r) := by
  have b2 : x < 4398046511104 := hx
  have b3 : y < 4398046511104 := hy
  intro m
  induction m using Nat.strongRecOn with
  | ind m ih =>
    intro l u k D hk hD hP l23 l24
    obtain ⟨j, rfl⟩ : ∃ j, k = j + 1 := ⟨k - 1, by omega⟩
    have e1 : ((j + 1 : Nat) : Int) + -1 = ((j : Nat) : Int) := by omega
    have g := hP.1
    by_cases q : j ≤ l
    · obtain rfl : j = l := by omega
      refine ⟨D, j, u, iI j, l23, l24, hP, prm_r _ _ _, fun l7 l8 l9 l10 l11 l12 l13 => ?_⟩
      rw [r279_575]
      simp (disch := omega) only [r279_578, r279_580, r279_582, iI_add, e1, iI_le, Int.le_refl, kl_n, kl_i, kl_r, kl_z, kl_l, kl_d, catS_0, catS_c, cat_i, cat_l, cat_d, cat_r, cat_n, kC_r, kC_x, Option.bind_some, Option.toList_some, Option.toList_none, List.cons_append, List.nil_append, gB0, gB1, gB2, gB3, gB4, rvB, nI_iI, i0, i1, l0_, wr_s, aup_s, and_true, true_and, and_self, eq_self, if_true, if_false, Nat.zero_le, Nat.reduceAdd, Nat.reduceLeDiff, gN_I, gN_L, gN_P, bI_0, bI_ok, z0, z1, Bool.true_eq, Bool.false_eq_true, not_true_eq_false, not_false_eq_true]
    · have c1 : ¬ (j : Int) ≤ l := by omega
      have b1 : D j < 4398046511104 := hD _
      -- the next turn, from behind the loop's body
      have next : ∀ (l' u' : Nat) (D1 : Nat → Nat), l < l' ∨ l' = l → l' < j ∨ l' = j → (l' < j → PI lo e x y l' j u' D1) → (l' = j → PI lo e x y j (j + 1) u' D1) → prm (lo + 1) e D D1 → ∀ l23 l24 : Option Value, ∃ D' l'' u'' v22 v23 v24, PI lo e x y l'' (l'' + 1) u'' D' ∧ prm (lo + 1) e D D' ∧ ∀ l7 l8 l9 l10 l11 l12 l13 : Option Value,
          L d 279 693 [some .null, some (.ref p), some (.int (iI b)), some (.int (iI lo)), some (.int (iI hi)), some (.int (iI e)), some (.int (iI sz)), l7, l8, l9, l10, l11, l12, l13, none, some (.int (iI l')), some (.int (iI u')), some (.long (lI x)), none, some (.long (lI y)), none, some (.int l21), some (.int (iI j)), l23, l24] [] (lw h p N D1, r) = L d 279 696 [some .null, some (.ref p), some (.int (iI b)), some (.int (iI lo)), some (.int (iI hi)), some (.int (iI e)), some (.int (iI sz)), l7, l8, l9, l10, l11, l12, l13, none, some (.int (iI l'')), some (.int (iI u'')), some (.long (lI x)), none, some (.long (lI y)), none, some (.int l21), some (.int v22), v23, v24] [] (lw h p N D', r) := by
        intro l' u' D1 h1 h2 h3 h4 h5 l23 l24
        by_cases q2 : l' = j
        · subst q2
          have c2 : (l' : Int) + -1 ≤ l' := by omega
          refine ⟨D1, l', u', iI ((l' : Int) + -1), l23, l24, h4 rfl, h5, fun l7 l8 l9 l10 l11 l12 l13 => ?_⟩
          rw [show L d 279 693 [some .null, some (.ref p), some (.int (iI b)), some (.int (iI lo)), some (.int (iI hi)), some (.int (iI e)), some (.int (iI sz)), l7, l8, l9, l10, l11, l12, l13, none, some (.int (iI l')), some (.int (iI u')), some (.long (lI x)), none, some (.long (lI y)), none, some (.int l21), some (.int (iI l')), l23, l24] [] (lw h p N D1, r) = L d 279 575 [some .null, some (.ref p), some (.int (iI b)), some (.int (iI lo)), some (.int (iI hi)), some (.int (iI e)), some (.int (iI sz)), l7, l8, l9, l10, l11, l12, l13, none, some (.int (iI l')), some (.int (iI u')), some (.long (lI x)), none, some (.long (lI y)), none, some (.int l21), some (.int (iI l')), l23, l24] [] (lw h p N D1, r) from r279_693, r279_575]
          simp (disch := omega) only [r279_578, r279_580, r279_582, iI_add, iI_le, c2, kl_n, kl_i, kl_r, kl_z, kl_l, kl_d, catS_0, catS_c, cat_i, cat_l, cat_d, cat_r, cat_n, kC_r, kC_x, Option.bind_some, Option.toList_some, Option.toList_none, List.cons_append, List.nil_append, gB0, gB1, gB2, gB3, gB4, rvB, nI_iI, i0, i1, l0_, wr_s, aup_s, and_true, true_and, and_self, eq_self, if_true, if_false, Nat.zero_le, Nat.reduceAdd, Nat.reduceLeDiff, gN_I, gN_L, gN_P, bI_0, bI_ok, z0, z1, Bool.true_eq, Bool.false_eq_true, not_true_eq_false, not_false_eq_true]
        · obtain ⟨D', l'', u'', v22, v23, v24, k1, k2, k3⟩ := ih (j - (l' + 1)) (by omega) l' u' j D1 (by omega) (prm_bd h5 hD) (h3 (by omega)) l23 l24
          refine ⟨D', l'', u'', v22, v23, v24, k1, prm_t h5 k2, fun l7 l8 l9 l10 l11 l12 l13 => ?_⟩
          rw [show L d 279 693 [some .null, some (.ref p), some (.int (iI b)), some (.int (iI lo)), some (.int (iI hi)), some (.int (iI e)), some (.int (iI sz)), l7, l8, l9, l10, l11, l12, l13, none, some (.int (iI l')), some (.int (iI u')), some (.long (lI x)), none, some (.long (lI y)), none, some (.int l21), some (.int (iI j)), l23, l24] [] (lw h p N D1, r) = L d 279 575 [some .null, some (.ref p), some (.int (iI b)), some (.int (iI lo)), some (.int (iI hi)), some (.int (iI e)), some (.int (iI sz)), l7, l8, l9, l10, l11, l12, l13, none, some (.int (iI l')), some (.int (iI u')), some (.long (lI x)), none, some (.long (lI y)), none, some (.int l21), some (.int (iI j)), l23, l24] [] (lw h p N D1, r) from r279_693]
          exact k3 _ _ _ _ _ _ _
      by_cases q1 : x ≤ D j
      · by_cases q2 : D j ≤ y
        · obtain ⟨D', l'', u'', v22, v23, v24, k1, k2, k3⟩ := next l u D (Or.inr rfl) (Or.inl (by omega)) (fun _ => PI_m hP (by omega) q1 q2) (fun z => by omega) (prm_r _ _ _) (some (.long (lI (D j)))) none
          refine ⟨D', l'', u'', v22, v23, v24, k1, k2, fun l7 l8 l9 l10 l11 l12 l13 => ?_⟩
          rw [r279_575]
          simp (disch := omega) only [r279_578, r279_580, r279_582, r279_585, r279_585n, r279_586, r279_588, r279_589, r279_591, r279_593, r279_595, r279_596, r279_668, r279_670, r279_672, r279_673, iI_add, e1, iI_le, c1, lw_g, lc_ge, lc_le, eL_le, q1, q2, k3, kl_n, kl_i, kl_r, kl_z, kl_l, kl_d, catS_0, catS_c, cat_i, cat_l, cat_d, cat_r, cat_n, kC_r, kC_x, Option.bind_some, Option.toList_some, Option.toList_none, List.cons_append, List.nil_append, gB0, gB1, gB2, gB3, gB4, rvB, nI_iI, i0, i1, l0_, wr_s, aup_s, and_true, true_and, and_self, eq_self, if_true, if_false, Nat.zero_le, Nat.reduceAdd, Nat.reduceLeDiff, gN_I, gN_L, gN_P, bI_0, bI_ok, z0, z1, Bool.true_eq, Bool.false_eq_true, not_true_eq_false, not_false_eq_true]
        · obtain ⟨w, rfl⟩ : ∃ w, u = w + 1 := ⟨u - 1, by omega⟩
          have e2 : ((w + 1 : Nat) : Int) + -1 = ((w : Nat) : Int) := by omega
          obtain ⟨D', l'', u'', v22, v23, v24, k1, k2, k3⟩ := next l w (upN (upN D j (D w)) w (D j)) (Or.inr rfl) (Or.inl (by omega)) (fun _ => PI_r hP (by omega) (by omega)) (fun z => by omega) (prm_s (by omega) (by omega)) (some (.long (lI (D j)))) none
          refine ⟨D', l'', u'', v22, v23, v24, k1, k2, fun l7 l8 l9 l10 l11 l12 l13 => ?_⟩
          rw [r279_575]
          simp (disch := omega) only [r279_578, r279_580, r279_582, r279_585, r279_585n, r279_586, r279_588, r279_589, r279_591, r279_593, r279_595, r279_596, r279_668, r279_670, r279_672, r279_673, r279_676, r279_676n, r279_677, r279_679, r279_679n, r279_680, r279_683, r279_685, r279_686, r279_687, r279_687n, r279_688, r279_690, r279_692, iI_add, e1, e2, iI_le, c1, lw_g, lw_s, lw_u, lc_ge, lc_le, eL_le, q1, q2, k3, kl_n, kl_i, kl_r, kl_z, kl_l, kl_d, catS_0, catS_c, cat_i, cat_l, cat_d, cat_r, cat_n, kC_r, kC_x, Option.bind_some, Option.toList_some, Option.toList_none, List.cons_append, List.nil_append, gB0, gB1, gB2, gB3, gB4, rvB, nI_iI, i0, i1, l0_, wr_s, aup_s, and_true, true_and, and_self, eq_self, if_true, if_false, Nat.zero_le, Nat.reduceAdd, Nat.reduceLeDiff, gN_I, gN_L, gN_P, bI_0, bI_ok, z0, z1, Bool.true_eq, Bool.false_eq_true, not_true_eq_false, not_false_eq_true]
      · have st : ∀ (l7 l8 l9 l10 l11 l12 l13 : Option Value), L d 279 575 [some .null, some (.ref p), some (.int (iI b)), some (.int (iI lo)), some (.int (iI hi)), some (.int (iI e)), some (.int (iI sz)), l7, l8, l9, l10, l11, l12, l13, none, some (.int (iI l)), some (.int (iI u)), some (.long (lI x)), none, some (.long (lI y)), none, some (.int l21), some (.int (iI (j + 1 : Nat))), l23, l24] [] (lw h p N D, r) = L d 279 599 [some .null, some (.ref p), some (.int (iI b)), some (.int (iI lo)), some (.int (iI hi)), some (.int (iI e)), some (.int (iI sz)), l7, l8, l9, l10, l11, l12, l13, none, some (.int (iI l)), some (.int (iI u)), some (.long (lI x)), none, some (.long (lI y)), none, some (.int l21), some (.int (iI j)), some (.long (lI (D j))), none] [] (lw h p N D, r) := by
          intro l7 l8 l9 l10 l11 l12 l13
          rw [r279_575]
          simp (disch := omega) only [r279_578, r279_580, r279_582, r279_585, r279_585n, r279_586, r279_588, r279_589, r279_591, r279_593, r279_595, r279_596, iI_add, e1, iI_le, c1, lw_g, lc_ge, eL_le, q1, kl_n, kl_i, kl_r, kl_z, kl_l, kl_d, catS_0, catS_c, cat_i, cat_l, cat_d, cat_r, cat_n, kC_r, kC_x, Option.bind_some, Option.toList_some, Option.toList_none, List.cons_append, List.nil_append, gB0, gB1, gB2, gB3, gB4, rvB, nI_iI, i0, i1, l0_, wr_s, aup_s, and_true, true_and, and_self, eq_self, if_true, if_false, Nat.zero_le, Nat.reduceAdd, Nat.reduceLeDiff, gN_I, gN_L, gN_P, bI_0, bI_ok, z0, z1, Bool.true_eq, Bool.false_eq_true, not_true_eq_false, not_false_eq_true]
        rcases in_599 (d := d) (h := h) (r := r) (p := p) (b := b) (lo := lo) (hi := hi) (e := e) (sz := sz) (x := x) (y := y) (z := D j) (k := j) (u := u) (D := D) (l21 := some (.int l21)) hN (by omega) hx hD (j - l) l (by omega) with ⟨t, t1, t2, t3, t4⟩ | ⟨t2, t4⟩
        · have ht : t ≠ j := fun z => by rw [z] at t3; exact q1 t3
          have b4 : D t < 4398046511104 := hD _
          by_cases q2 : D t ≤ y
          · obtain ⟨D', l'', u'', v22, v23, v24, k1, k2, k3⟩ := next t u (upN (upN D j (D t)) t (D j)) (Or.inl t1.1) (Or.inl (by omega)) (fun _ => PI_l hP (by omega) (by omega) t2 t3 q2) (fun z => by omega) (prm_s (by omega) (by omega)) (some (.long (lI (D j)))) none
            refine ⟨D', l'', u'', v22, v23, v24, k1, k2, fun l7 l8 l9 l10 l11 l12 l13 => ?_⟩
            rw [st, t4]
            simp (disch := omega) only [r279_619, r279_619n, r279_620, r279_622, r279_623, r279_625, r279_626, r279_629, r279_629n, r279_630, r279_632, r279_632n, r279_633, r279_636, r279_638, r279_639, r279_640, r279_640n, r279_641, r279_643, r279_643n, r279_644, r279_646, r279_647, r279_648, r279_651, r279_651n, r279_652, r279_654, r279_654n, r279_655, r279_657, r279_658, r279_659, r279_659n, r279_660, r279_662, r279_664, r279_665, lw_g, lw_s, lw_u, lc_le, eL_le, q2, k3, kl_n, kl_i, kl_r, kl_z, kl_l, kl_d, catS_0, catS_c, cat_i, cat_l, cat_d, cat_r, cat_n, kC_r, kC_x, Option.bind_some, Option.toList_some, Option.toList_none, List.cons_append, List.nil_append, gB0, gB1, gB2, gB3, gB4, rvB, nI_iI, i0, i1, l0_, wr_s, aup_s, and_true, true_and, and_self, eq_self, if_true, if_false, Nat.zero_le, Nat.reduceAdd, Nat.reduceLeDiff, gN_I, gN_L, gN_P, bI_0, bI_ok, z0, z1, Bool.true_eq, Bool.false_eq_true, not_true_eq_false, not_false_eq_true]
          · obtain ⟨w, rfl⟩ : ∃ w, u = w + 1 := ⟨u - 1, by omega⟩
            have e2 : ((w + 1 : Nat) : Int) + -1 = ((w : Nat) : Int) := by omega
            have r1 : upN D j (D w) t = D t := upN_o ht
            have p1 := hole_q (a := lo + 1) (b := e) (i := j) (j := w) (x := D j) (C := D) (by omega) (by omega)
            have p2 := hole_q (a := lo + 1) (b := e) (i := w) (j := t) (x := D j) (C := upN D j (D w)) (by omega) (by omega)
            rw [upN_id] at p1
            rw [r1] at p2
            obtain ⟨D', l'', u'', v22, v23, v24, k1, k2, k3⟩ := next t w (upN (upN (upN D j (D w)) w (D t)) t (D j)) (Or.inl t1.1) (Or.inl (by omega)) (fun _ => PI_b hP (by omega) (by omega) t2 (by omega)) (fun z => by omega) (prm_t p1 p2) (some (.long (lI (D j)))) none
            refine ⟨D', l'', u'', v22, v23, v24, k1, k2, fun l7 l8 l9 l10 l11 l12 l13 => ?_⟩
            rw [st, t4]
            simp (disch := omega) only [r279_619, r279_619n, r279_620, r279_622, r279_623, r279_625, r279_626, r279_629, r279_629n, r279_630, r279_632, r279_632n, r279_633, r279_636, r279_638, r279_639, r279_640, r279_640n, r279_641, r279_643, r279_643n, r279_644, r279_646, r279_647, r279_648, r279_651, r279_651n, r279_652, r279_654, r279_654n, r279_655, r279_657, r279_658, r279_659, r279_659n, r279_660, r279_662, r279_664, r279_665, iI_add, e2, lw_g, lw_s, lw_u, r1, lc_le, eL_le, q2, k3, kl_n, kl_i, kl_r, kl_z, kl_l, kl_d, catS_0, catS_c, cat_i, cat_l, cat_d, cat_r, cat_n, kC_r, kC_x, Option.bind_some, Option.toList_some, Option.toList_none, List.cons_append, List.nil_append, gB0, gB1, gB2, gB3, gB4, rvB, nI_iI, i0, i1, l0_, wr_s, aup_s, and_true, true_and, and_self, eq_self, if_true, if_false, Nat.zero_le, Nat.reduceAdd, Nat.reduceLeDiff, gN_I, gN_L, gN_P, bI_0, bI_ok, z0, z1, Bool.true_eq, Bool.false_eq_true, not_true_eq_false, not_false_eq_true]
        · obtain ⟨D', l'', u'', v22, v23, v24, k1, k2, k3⟩ := next j u D (Or.inl (by omega)) (Or.inr rfl) (fun z => by omega) (fun _ => PI_k hP (by omega) t2) (prm_r _ _ _) (some (.long (lI (D j)))) none
          refine ⟨D', l'', u'', v22, v23, v24, k1, k2, fun l7 l8 l9 l10 l11 l12 l13 => ?_⟩
          rw [st, t4, k3]
end
