/-! ===== the library sorts a row: parted by one of its values ===== -/
theorem prm_w {a b a' b' j z : Nat} {C D : Nat → Nat} (h : prm a b C D) (h1 : j < a ∨ b ≤ j) (h2 : a' ≤ a) (h3 : b ≤ b') (h4 : a' ≤ j) (h5 : j < b') : prm a' b' (upN C j z) (upN D j z) := by
  have hm := prm_m h h2 h3
  refine ⟨fun i hi => ?_, fun v => ?_⟩
  · rw [upN_o (by omega), upN_o (by omega), hm.1 i hi]
  · have e1 := cn_upN (F := C) (p := j) (c := z) (v := v) h5
    have e2 := cn_upN (F := D) (p := j) (c := z) (v := v) h5
    rw [h.1 j h1, hm.2 v] at e2
    omega
/-- below l less than x, from k up to u just x, from u on more -/
def SI (lo hi x l k u : Nat) (D : Nat → Nat) : Prop := (lo ≤ l ∧ l < k ∧ k ≤ u ∧ u ≤ hi) ∧ (∀ i, lo < i → i ≤ l → D i < x) ∧ (∀ i, k ≤ i → i < u → D i = x) ∧ ∀ i, u ≤ i → i < hi → x < D i
theorem SI_m {lo hi x l k u : Nat} {D : Nat → Nat} (h : SI lo hi x l (k + 1) u D) (hk : l < k) (h1 : D k = x) : SI lo hi x l k u D := by
  obtain ⟨g1, g2, g3, g4⟩ := h
  refine ⟨by omega, g2, fun i h3 h4 => ?_, g4⟩
  by_cases q : i = k
  · rw [q, h1]
  · exact g3 i (by omega) h4
theorem SI_r {lo hi x l k u : Nat} {D : Nat → Nat} (h : SI lo hi x l (k + 1) (u + 1) D) (hk : l < k) (h1 : x < D k) : SI lo hi x l k u (upN (upN D k x) u (D k)) := by
  obtain ⟨g1, g2, g3, g4⟩ := h
  refine ⟨by omega, fun i h3 h4 => ?_, fun i h3 h4 => ?_, fun i h3 h4 => ?_⟩
  · rw [upN_o (by omega), upN_o (by omega)]
    exact g2 i h3 h4
  · rw [upN_o (by omega)]
    by_cases q : i = k
    · rw [q, upN_at]
    · rw [upN_o q]
      exact g3 i (by omega) (by omega)
  · by_cases q : i = u
    · rw [q, upN_at]
      exact h1
    · rw [upN_o q, upN_o (by omega)]
      exact g4 i (by omega) h4
theorem SI_l {lo hi x l k u t : Nat} {D : Nat → Nat} (h : SI lo hi x l (k + 1) u D) (hx : D k < x) (ht : l < t ∧ t < k) (h1 : ∀ i, l < i → i < t → D i < x) : SI lo hi x t k u (upN (upN D k x) t (D k)) := by
  obtain ⟨g1, g2, g3, g4⟩ := h
  refine ⟨by omega, fun i h5 h6 => ?_, fun i h5 h6 => ?_, fun i h5 h6 => ?_⟩
  · by_cases q : i = t
    · rw [q, upN_at]
      exact hx
    · rw [upN_o q, upN_o (by omega)]
      by_cases q2 : i ≤ l
      · exact g2 i h5 q2
      · exact h1 i (by omega) (by omega)
  · rw [upN_o (by omega)]
    by_cases q : i = k
    · rw [q, upN_at]
    · rw [upN_o q]
      exact g3 i (by omega) h6
  · rw [upN_o (by omega), upN_o (by omega)]
    exact g4 i h5 h6
theorem SI_b {lo hi x l k u t : Nat} {D : Nat → Nat} (h : SI lo hi x l (k + 1) (u + 1) D) (hx : D k < x) (ht : l < t ∧ t < k) (h1 : ∀ i, l < i → i < t → D i < x) (h3 : x < D t) : SI lo hi x t k u (upN (upN (upN D k x) u (D t)) t (D k)) := by
  obtain ⟨g1, g2, g3, g4⟩ := h
  refine ⟨by omega, fun i h5 h6 => ?_, fun i h5 h6 => ?_, fun i h5 h6 => ?_⟩
  · by_cases q : i = t
    · rw [q, upN_at]
      exact hx
    · rw [upN_o q, upN_o (by omega), upN_o (by omega)]
      by_cases q2 : i ≤ l
      · exact g2 i h5 q2
      · exact h1 i (by omega) (by omega)
  · rw [upN_o (by omega), upN_o (by omega)]
    by_cases q : i = k
    · rw [q, upN_at]
    · rw [upN_o q]
      exact g3 i (by omega) (by omega)
  · rw [upN_o (by omega)]
    by_cases q : i = u
    · rw [q, upN_at]
      exact h3
    · rw [upN_o q, upN_o (by omega)]
      exact g4 i (by omega) h6
theorem SI_k {lo hi x l k u : Nat} {D : Nat → Nat} (h : SI lo hi x l (k + 1) u D) (hk : l < k) (h1 : ∀ i, l < i → i ≤ k → D i < x) : SI lo hi x k (k + 1) u D := by
  obtain ⟨g1, g2, g3, g4⟩ := h
  refine ⟨by omega, fun i h5 h6 => ?_, g3, g4⟩
  by_cases q2 : i ≤ l
  · exact g2 i h5 q2
  · exact h1 i (by omega) h6
section
variable {d : Nat} {h : aHf} {r : Nat × Nat × Nat × Nat} {p N b lo hi e sz : Nat}
theorem up_854 {x q : Nat} {D : Nat → Nat} (hN : N ≤ 2000) (hq : q < N) (hx : bd x) (hD : ∀ k, bd (D k)) (hs : x ≤ D q) : ∀ m l : Nat, l + m + 1 = q → ∃ t, (l ≤ t ∧ t < q) ∧ (∀ i, l < i → i ≤ t → D i < x) ∧ x ≤ D (t + 1) ∧ ∀ l7 l8 l9 l10 l11 l12 l13 l16 l19 l20 l21 l22 l23 l24 : Option Value,
    L d 279 854 [some .null, some (.ref p), some (.int (iI b)), some (.int (iI lo)), some (.int (iI hi)), some (.int (iI e)), some (.int (iI sz)), l7, l8, l9, l10, l11, l12, l13, none, some (.int (iI l)), l16, some (.long (lI x)), none, l19, l20, l21, l22, l23, l24] [] (lw h p N D, r) = L d 279 870 [some .null, some (.ref p), some (.int (iI b)), some (.int (iI lo)), some (.int (iI hi)), some (.int (iI e)), some (.int (iI sz)), l7, l8, l9, l10, l11, l12, l13, none, some (.int (iI (t + 1 : Nat))), l16, some (.long (lI x)), none, l19, l20, l21, l22, l23, l24] [] (lw h p N D, r) := by
  have b2 : x < 4398046511104 := hx
  have stop : ∀ l : Nat, l + 1 ≤ q → x ≤ D (l + 1) → ∃ t, (l ≤ t ∧ t < q) ∧ (∀ i, l < i → i ≤ t → D i < x) ∧ x ≤ D (t + 1) ∧ ∀ l7 l8 l9 l10 l11 l12 l13 l16 l19 l20 l21 l22 l23 l24 : Option Value,
      L d 279 854 [some .null, some (.ref p), some (.int (iI b)), some (.int (iI lo)), some (.int (iI hi)), some (.int (iI e)), some (.int (iI sz)), l7, l8, l9, l10, l11, l12, l13, none, some (.int (iI l)), l16, some (.long (lI x)), none, l19, l20, l21, l22, l23, l24] [] (lw h p N D, r) = L d 279 870 [some .null, some (.ref p), some (.int (iI b)), some (.int (iI lo)), some (.int (iI hi)), some (.int (iI e)), some (.int (iI sz)), l7, l8, l9, l10, l11, l12, l13, none, some (.int (iI (t + 1 : Nat))), l16, some (.long (lI x)), none, l19, l20, l21, l22, l23, l24] [] (lw h p N D, r) := by
    intro l hl hs2
    have e1 : (l : Int) + 1 = ((l + 1 : Nat) : Int) := by omega
    have b1 : D (l + 1) < 4398046511104 := hD _
    refine ⟨l, by omega, fun i h1 h2 => by omega, hs2, fun l7 l8 l9 l10 l11 l12 l13 l16 l19 l20 l21 l22 l23 l24 => ?_⟩
    rw [r279_854]
    simp (disch := omega) only [r279_855, r279_858, r279_860, r279_861, r279_863, r279_864, r279_867, iI_add, e1, lw_g, lc_ge, eL_le, hs2, kl_n, kl_i, kl_r, kl_z, kl_l, kl_d, catS_0, catS_c, cat_i, cat_l, cat_d, cat_r, cat_n, kC_r, kC_x, Option.bind_some, Option.toList_some, Option.toList_none, List.cons_append, List.nil_append, gB0, gB1, gB2, gB3, gB4, rvB, nI_iI, i0, i1, l0_, wr_s, aup_s, and_true, true_and, and_self, eq_self, if_true, if_false, Nat.zero_le, Nat.reduceAdd, Nat.reduceLeDiff, gN_I, gN_L, gN_P, bI_0, bI_ok, z0, z1, Bool.true_eq, Bool.false_eq_true, not_true_eq_false, not_false_eq_true]
  intro m
  induction m with
  | zero =>
    intro l hl
    exact stop l (by omega) (by rw [show l + 1 = q by omega]; exact hs)
  | succ m ih =>
    intro l hl
    by_cases q1 : x ≤ D (l + 1)
    · exact stop l (by omega) q1
    · have e1 : (l : Int) + 1 = ((l + 1 : Nat) : Int) := by omega
      have b1 : D (l + 1) < 4398046511104 := hD _
      obtain ⟨t, t1, t2, t4, t3⟩ := ih (l + 1) (by omega)
      refine ⟨t, by omega, fun i h1 h2 => ?_, t4, fun l7 l8 l9 l10 l11 l12 l13 l16 l19 l20 l21 l22 l23 l24 => ?_⟩
      · by_cases q2 : i = l + 1
        · rw [q2]
          omega
        · exact t2 i (by omega) h2
      rw [r279_854]
      simp (disch := omega) only [r279_855, r279_858, r279_860, r279_861, r279_863, r279_864, r279_867, iI_add, e1, lw_g, lc_ge, eL_le, q1, kl_n, kl_i, kl_r, kl_z, kl_l, kl_d, catS_0, catS_c, cat_i, cat_l, cat_d, cat_r, cat_n, kC_r, kC_x, Option.bind_some, Option.toList_some, Option.toList_none, List.cons_append, List.nil_append, gB0, gB1, gB2, gB3, gB4, rvB, nI_iI, i0, i1, l0_, wr_s, aup_s, and_true, true_and, and_self, eq_self, if_true, if_false, Nat.zero_le, Nat.reduceAdd, Nat.reduceLeDiff, gN_I, gN_L, gN_P, bI_0, bI_ok, z0, z1, Bool.true_eq, Bool.false_eq_true, not_true_eq_false, not_false_eq_true]
      exact t3 _ _ _ _ _ _ _ _ _ _ _ _ _ _
theorem pt_816 {x : Nat} (hN : N ≤ 2000) (hh : hi ≤ N) (hx : bd x) : ∀ (m l u k : Nat) (D : Nat → Nat), k = l + 1 + m → (∀ j, bd (D j)) → SI lo hi x l k u D → ∀ l20 l21 : Option Value, ∃ D' l' u' v19 v20 v21, SI lo hi x l' (l' + 1) u' D' ∧ prm (lo + 1) hi D D' ∧ ∀ l7 l8 l9 l10 l11 l12 l13 l22 l23 l24 : Option Value,
    L d 279 816 [some .null, some (.ref p), some (.int (iI b)), some (.int (iI lo)), some (.int (iI hi)), some (.int (iI e)), some (.int (iI sz)), l7, l8, l9, l10, l11, l12, l13, none, some (.int (iI l)), some (.int (iI u)), some (.long (lI x)), none, some (.int (iI k)), l20, l21, l22, l23, l24] [] (lw h p N D, r) = L d 279 912 [some .null, some (.ref p), some (.int (iI b)), some (.int (iI lo)), some (.int (iI hi)), some (.int (iI e)), some (.int (iI sz)), l7, l8, l9, l10, l11, l12, l13, none, some (.int (iI l')), some (.int (iI u')), some (.long (lI x)), none, some (.int v19), v20, v21, l22, l23, l24] [] (lw h p N D', r) := by
  have b2 : x < 4398046511104 := hx
  intro m
  induction m using Nat.strongRecOn with
  | ind m ih =>
    intro l u k D hk hD hP l20 l21
    obtain ⟨j, rfl⟩ : ∃ j, k = j + 1 := ⟨k - 1, by omega⟩
    have e1 : ((j + 1 : Nat) : Int) + -1 = ((j : Nat) : Int) := by omega
    have g := hP.1
    by_cases q : j ≤ l
    · obtain rfl : j = l := by omega
      refine ⟨D, j, u, iI j, l20, l21, hP, prm_r _ _ _, fun l7 l8 l9 l10 l11 l12 l13 l22 l23 l24 => ?_⟩
      rw [r279_816]
      simp (disch := omega) only [r279_819, r279_821, r279_823, iI_add, e1, iI_le, Int.le_refl, kl_n, kl_i, kl_r, kl_z, kl_l, kl_d, catS_0, catS_c, cat_i, cat_l, cat_d, cat_r, cat_n, kC_r, kC_x, Option.bind_some, Option.toList_some, Option.toList_none, List.cons_append, List.nil_append, gB0, gB1, gB2, gB3, gB4, rvB, nI_iI, i0, i1, l0_, wr_s, aup_s, and_true, true_and, and_self, eq_self, if_true, if_false, Nat.zero_le, Nat.reduceAdd, Nat.reduceLeDiff, gN_I, gN_L, gN_P, bI_0, bI_ok, z0, z1, Bool.true_eq, Bool.false_eq_true, not_true_eq_false, not_false_eq_true]
    · have c1 : ¬ (j : Int) ≤ l := by omega
      have b1 : D j < 4398046511104 := hD _
      have next : ∀ (l' u' : Nat) (D1 : Nat → Nat), l < l' ∨ l' = l → l' < j ∨ l' = j → (l' < j → SI lo hi x l' j u' D1) → (l' = j → SI lo hi x j (j + 1) u' D1) → prm (lo + 1) hi D D1 → ∀ l20 l21 : Option Value, ∃ D' l'' u'' v19 v20 v21, SI lo hi x l'' (l'' + 1) u'' D' ∧ prm (lo + 1) hi D D' ∧ ∀ l7 l8 l9 l10 l11 l12 l13 l22 l23 l24 : Option Value,
          L d 279 909 [some .null, some (.ref p), some (.int (iI b)), some (.int (iI lo)), some (.int (iI hi)), some (.int (iI e)), some (.int (iI sz)), l7, l8, l9, l10, l11, l12, l13, none, some (.int (iI l')), some (.int (iI u')), some (.long (lI x)), none, some (.int (iI j)), l20, l21, l22, l23, l24] [] (lw h p N D1, r) = L d 279 912 [some .null, some (.ref p), some (.int (iI b)), some (.int (iI lo)), some (.int (iI hi)), some (.int (iI e)), some (.int (iI sz)), l7, l8, l9, l10, l11, l12, l13, none, some (.int (iI l'')), some (.int (iI u'')), some (.long (lI x)), none, some (.int v19), v20, v21, l22, l23, l24] [] (lw h p N D', r) := by
        intro l' u' D1 h1 h2 h3 h4 h5 l20 l21
        by_cases q2 : l' = j
        · subst q2
          have c2 : (l' : Int) + -1 ≤ l' := by omega
          refine ⟨D1, l', u', iI ((l' : Int) + -1), l20, l21, h4 rfl, h5, fun l7 l8 l9 l10 l11 l12 l13 l22 l23 l24 => ?_⟩
          rw [show L d 279 909 [some .null, some (.ref p), some (.int (iI b)), some (.int (iI lo)), some (.int (iI hi)), some (.int (iI e)), some (.int (iI sz)), l7, l8, l9, l10, l11, l12, l13, none, some (.int (iI l')), some (.int (iI u')), some (.long (lI x)), none, some (.int (iI l')), l20, l21, l22, l23, l24] [] (lw h p N D1, r) = L d 279 816 [some .null, some (.ref p), some (.int (iI b)), some (.int (iI lo)), some (.int (iI hi)), some (.int (iI e)), some (.int (iI sz)), l7, l8, l9, l10, l11, l12, l13, none, some (.int (iI l')), some (.int (iI u')), some (.long (lI x)), none, some (.int (iI l')), l20, l21, l22, l23, l24] [] (lw h p N D1, r) from r279_909, r279_816]
          simp (disch := omega) only [r279_819, r279_821, r279_823, iI_add, iI_le, c2, kl_n, kl_i, kl_r, kl_z, kl_l, kl_d, catS_0, catS_c, cat_i, cat_l, cat_d, cat_r, cat_n, kC_r, kC_x, Option.bind_some, Option.toList_some, Option.toList_none, List.cons_append, List.nil_append, gB0, gB1, gB2, gB3, gB4, rvB, nI_iI, i0, i1, l0_, wr_s, aup_s, and_true, true_and, and_self, eq_self, if_true, if_false, Nat.zero_le, Nat.reduceAdd, Nat.reduceLeDiff, gN_I, gN_L, gN_P, bI_0, bI_ok, z0, z1, Bool.true_eq, Bool.false_eq_true, not_true_eq_false, not_false_eq_true]
        · obtain ⟨D', l'', u'', v19, v20, v21, k1, k2, k3⟩ := ih (j - (l' + 1)) (by omega) l' u' j D1 (by omega) (prm_bd h5 hD) (h3 (by omega)) l20 l21
          refine ⟨D', l'', u'', v19, v20, v21, k1, prm_t h5 k2, fun l7 l8 l9 l10 l11 l12 l13 l22 l23 l24 => ?_⟩
          rw [show L d 279 909 [some .null, some (.ref p), some (.int (iI b)), some (.int (iI lo)), some (.int (iI hi)), some (.int (iI e)), some (.int (iI sz)), l7, l8, l9, l10, l11, l12, l13, none, some (.int (iI l')), some (.int (iI u')), some (.long (lI x)), none, some (.int (iI j)), l20, l21, l22, l23, l24] [] (lw h p N D1, r) = L d 279 816 [some .null, some (.ref p), some (.int (iI b)), some (.int (iI lo)), some (.int (iI hi)), some (.int (iI e)), some (.int (iI sz)), l7, l8, l9, l10, l11, l12, l13, none, some (.int (iI l')), some (.int (iI u')), some (.long (lI x)), none, some (.int (iI j)), l20, l21, l22, l23, l24] [] (lw h p N D1, r) from r279_909]
          exact k3 _ _ _ _ _ _ _ _ _ _
      by_cases q0 : D j = x
      · obtain ⟨D', l'', u'', v19, v20, v21, k1, k2, k3⟩ := next l u D (Or.inr rfl) (Or.inl (by omega)) (fun _ => SI_m hP (by omega) q0) (fun z => by omega) (prm_r _ _ _) (some (.long (lI (D j)))) none
        refine ⟨D', l'', u'', v19, v20, v21, k1, k2, fun l7 l8 l9 l10 l11 l12 l13 l22 l23 l24 => ?_⟩
        rw [r279_816]
        simp (disch := omega) only [r279_819, r279_821, r279_823, r279_826, r279_826n, r279_827, r279_829, r279_830, r279_832, r279_834, r279_836, r279_837, iI_add, e1, iI_le, c1, lw_g, lc_eq, eL_eq, q0, kl_n, kl_i, kl_r, kl_z, kl_l, kl_d, catS_0, catS_c, cat_i, cat_l, cat_d, cat_r, cat_n, kC_r, kC_x, Option.bind_some, Option.toList_some, Option.toList_none, List.cons_append, List.nil_append, gB0, gB1, gB2, gB3, gB4, rvB, nI_iI, i0, i1, l0_, wr_s, aup_s, and_true, true_and, and_self, eq_self, if_true, if_false, Nat.zero_le, Nat.reduceAdd, Nat.reduceLeDiff, gN_I, gN_L, gN_P, bI_0, bI_ok, z0, z1, Bool.true_eq, Bool.false_eq_true, not_true_eq_false, not_false_eq_true]
        rw [q0] at k3
        exact k3 _ _ _ _ _ _ _ _ _ _
      · obtain ⟨w, rfl⟩ : ∃ w, u = w + 1 := ⟨u - 1, by omega⟩
        have e2 : ((w + 1 : Nat) : Int) + -1 = ((w : Nat) : Int) := by omega
        have gw : w = j ∨ (j < w ∧ D w = x) := by
          by_cases z : w = j
          · exact Or.inl z
          · exact Or.inr ⟨by omega, hP.2.2.1 w (by omega) (by omega)⟩
        have bD1 : ∀ i, bd (upN D j x i) := upN_ok hx hD
        by_cases q1 : x ≤ D j
        · have pp : prm (lo + 1) hi D (upN (upN D j x) w (D j)) := by
            rcases gw with gw | gw
            · rw [gw, upN_2, upN_id]
              exact prm_r _ _ _
            · have z := prm_s (a := lo + 1) (b := hi) (i := j) (j := w) (C := D) (by omega) (by omega)
              rw [gw.2] at z
              exact z
          obtain ⟨D', l'', u'', v19, v20, v21, k1, k2, k3⟩ := next l w (upN (upN D j x) w (D j)) (Or.inr rfl) (Or.inl (by omega)) (fun _ => SI_r hP (by omega) (by omega)) (fun z => by omega) pp (some (.long (lI (D j)))) none
          refine ⟨D', l'', u'', v19, v20, v21, k1, k2, fun l7 l8 l9 l10 l11 l12 l13 l22 l23 l24 => ?_⟩
          rw [r279_816]
          simp (disch := omega) only [r279_819, r279_821, r279_823, r279_826, r279_826n, r279_827, r279_829, r279_830, r279_832, r279_834, r279_836, r279_837, r279_840, r279_840n, r279_841, r279_843, r279_845, r279_846, r279_848, r279_850, r279_851, r279_900, r279_900n, r279_901, r279_904, r279_906, r279_908, iI_add, e1, e2, iI_le, c1, lw_g, lw_s, lw_u, lc_eq, eL_eq, q0, lc_ge, eL_le, q1, k3, kl_n, kl_i, kl_r, kl_z, kl_l, kl_d, catS_0, catS_c, cat_i, cat_l, cat_d, cat_r, cat_n, kC_r, kC_x, Option.bind_some, Option.toList_some, Option.toList_none, List.cons_append, List.nil_append, gB0, gB1, gB2, gB3, gB4, rvB, nI_iI, i0, i1, l0_, wr_s, aup_s, and_true, true_and, and_self, eq_self, if_true, if_false, Nat.zero_le, Nat.reduceAdd, Nat.reduceLeDiff, gN_I, gN_L, gN_P, bI_0, bI_ok, z0, z1, Bool.true_eq, Bool.false_eq_true, not_true_eq_false, not_false_eq_true]
        · have st : ∀ (l7 l8 l9 l10 l11 l12 l13 l22 l23 l24 : Option Value), L d 279 816 [some .null, some (.ref p), some (.int (iI b)), some (.int (iI lo)), some (.int (iI hi)), some (.int (iI e)), some (.int (iI sz)), l7, l8, l9, l10, l11, l12, l13, none, some (.int (iI l)), some (.int (iI (w + 1 : Nat))), some (.long (lI x)), none, some (.int (iI (j + 1 : Nat))), l20, l21, l22, l23, l24] [] (lw h p N D, r) = L d 279 854 [some .null, some (.ref p), some (.int (iI b)), some (.int (iI lo)), some (.int (iI hi)), some (.int (iI e)), some (.int (iI sz)), l7, l8, l9, l10, l11, l12, l13, none, some (.int (iI l)), some (.int (iI (w + 1 : Nat))), some (.long (lI x)), none, some (.int (iI j)), some (.long (lI (D j))), none, l22, l23, l24] [] (lw h p N (upN D j x), r) := by
            intro l7 l8 l9 l10 l11 l12 l13 l22 l23 l24
            rw [r279_816]
            simp (disch := omega) only [r279_819, r279_821, r279_823, r279_826, r279_826n, r279_827, r279_829, r279_830, r279_832, r279_834, r279_836, r279_837, r279_840, r279_840n, r279_841, r279_843, r279_845, r279_846, r279_848, r279_850, r279_851, iI_add, e1, iI_le, c1, lw_g, lw_s, lw_u, lc_eq, eL_eq, q0, lc_ge, eL_le, q1, kl_n, kl_i, kl_r, kl_z, kl_l, kl_d, catS_0, catS_c, cat_i, cat_l, cat_d, cat_r, cat_n, kC_r, kC_x, Option.bind_some, Option.toList_some, Option.toList_none, List.cons_append, List.nil_append, gB0, gB1, gB2, gB3, gB4, rvB, nI_iI, i0, i1, l0_, wr_s, aup_s, and_true, true_and, and_self, eq_self, if_true, if_false, Nat.zero_le, Nat.reduceAdd, Nat.reduceLeDiff, gN_I, gN_L, gN_P, bI_0, bI_ok, z0, z1, Bool.true_eq, Bool.false_eq_true, not_true_eq_false, not_false_eq_true]
          obtain ⟨t, t1, t2, t3, t4⟩ := up_854 (d := d) (h := h) (r := r) (p := p) (b := b) (lo := lo) (hi := hi) (e := e) (sz := sz) (x := x) (q := j) (D := upN D j x) hN (by omega) hx bD1 (by rw [upN_at]; exact Nat.le_refl _) (j - l - 1) l (by omega)
          have t2' : ∀ i, l < i → i < t + 1 → D i < x := fun i h1 h2 => by
            have z := t2 i h1 (by omega)
            rw [upN_o (by omega)] at z
            exact z
          have b4 : upN D j x (t + 1) < 4398046511104 := bD1 _
          by_cases q2 : upN D j x (t + 1) ≤ x
          · by_cases q3 : t + 1 = j
            · have pe : upN (upN D j x) (t + 1) (D j) = D := by rw [q3, upN_2, upN_id]
              obtain ⟨D', l'', u'', v19, v20, v21, k1, k2, k3⟩ := next (t + 1) (w + 1) (upN (upN D j x) (t + 1) (D j)) (Or.inl (by omega)) (Or.inr q3) (fun z => by omega) (fun _ => by rw [pe]; exact SI_k hP (by omega) (fun i h1 h2 => by
                by_cases z : i = j
                · rw [z]
                  omega
                · exact t2' i h1 (by omega))) (by rw [pe]; exact prm_r _ _ _) (some (.long (lI (D j)))) none
              refine ⟨D', l'', u'', v19, v20, v21, k1, k2, fun l7 l8 l9 l10 l11 l12 l13 l22 l23 l24 => ?_⟩
              rw [st, t4]
              simp (disch := omega) only [r279_870, r279_870n, r279_871, r279_873, r279_874, r279_876, r279_877, r279_880, r279_880n, r279_881, r279_884, r279_886, r279_886n, r279_887, r279_889, r279_890, r279_891, r279_891n, r279_892, r279_894, r279_896, r279_897, r279_900, r279_900n, r279_901, r279_904, r279_906, r279_908, lw_g, lw_s, lw_u, lc_le, eL_le, q2, k3, kl_n, kl_i, kl_r, kl_z, kl_l, kl_d, catS_0, catS_c, cat_i, cat_l, cat_d, cat_r, cat_n, kC_r, kC_x, Option.bind_some, Option.toList_some, Option.toList_none, List.cons_append, List.nil_append, gB0, gB1, gB2, gB3, gB4, rvB, nI_iI, i0, i1, l0_, wr_s, aup_s, and_true, true_and, and_self, eq_self, if_true, if_false, Nat.zero_le, Nat.reduceAdd, Nat.reduceLeDiff, gN_I, gN_L, gN_P, bI_0, bI_ok, z0, z1, Bool.true_eq, Bool.false_eq_true, not_true_eq_false, not_false_eq_true]
            · have dt : D (t + 1) = x := by
                rw [upN_o q3] at q2 t3
                omega
              have pp := prm_s (a := lo + 1) (b := hi) (i := j) (j := t + 1) (C := D) (by omega) (by omega)
              rw [dt] at pp
              obtain ⟨D', l'', u'', v19, v20, v21, k1, k2, k3⟩ := next (t + 1) (w + 1) (upN (upN D j x) (t + 1) (D j)) (Or.inl (by omega)) (Or.inl (by omega)) (fun _ => SI_l hP (by omega) (by omega) t2') (fun z => by omega) pp (some (.long (lI (D j)))) none
              refine ⟨D', l'', u'', v19, v20, v21, k1, k2, fun l7 l8 l9 l10 l11 l12 l13 l22 l23 l24 => ?_⟩
              rw [st, t4]
              simp (disch := omega) only [r279_870, r279_870n, r279_871, r279_873, r279_874, r279_876, r279_877, r279_880, r279_880n, r279_881, r279_884, r279_886, r279_886n, r279_887, r279_889, r279_890, r279_891, r279_891n, r279_892, r279_894, r279_896, r279_897, r279_900, r279_900n, r279_901, r279_904, r279_906, r279_908, lw_g, lw_s, lw_u, lc_le, eL_le, q2, k3, kl_n, kl_i, kl_r, kl_z, kl_l, kl_d, catS_0, catS_c, cat_i, cat_l, cat_d, cat_r, cat_n, kC_r, kC_x, Option.bind_some, Option.toList_some, Option.toList_none, List.cons_append, List.nil_append, gB0, gB1, gB2, gB3, gB4, rvB, nI_iI, i0, i1, l0_, wr_s, aup_s, and_true, true_and, and_self, eq_self, if_true, if_false, Nat.zero_le, Nat.reduceAdd, Nat.reduceLeDiff, gN_I, gN_L, gN_P, bI_0, bI_ok, z0, z1, Bool.true_eq, Bool.false_eq_true, not_true_eq_false, not_false_eq_true]
          · have q3 : t + 1 ≠ j := fun z => by
              rw [z, upN_at] at q2
              exact q2 (Nat.le_refl _)
            have dt : upN D j x (t + 1) = D (t + 1) := upN_o q3
            have pp : prm (lo + 1) hi D (upN (upN (upN D j x) w (D (t + 1))) (t + 1) (D j)) := by
              rcases gw with gw | gw
              · rw [gw, upN_2]
                exact prm_s (by omega) (by omega)
              · have z := hole_q (a := lo + 1) (b := hi) (i := j) (j := w) (x := D j) (C := D) (by omega) (by omega)
                have z2 := hole_q (a := lo + 1) (b := hi) (i := w) (j := t + 1) (x := D j) (C := upN D j x) (by omega) (by omega)
                rw [upN_id, gw.2] at z
                rw [dt] at z2
                exact prm_t z z2
            rw [dt] at q2
            obtain ⟨D', l'', u'', v19, v20, v21, k1, k2, k3⟩ := next (t + 1) w (upN (upN (upN D j x) w (D (t + 1))) (t + 1) (D j)) (Or.inl (by omega)) (Or.inl (by omega)) (fun _ => SI_b hP (by omega) (by omega) t2' (by omega)) (fun z => by omega) pp (some (.long (lI (D j)))) none
            refine ⟨D', l'', u'', v19, v20, v21, k1, k2, fun l7 l8 l9 l10 l11 l12 l13 l22 l23 l24 => ?_⟩
            rw [st, t4]
            simp (disch := omega) only [r279_870, r279_870n, r279_871, r279_873, r279_874, r279_876, r279_877, r279_880, r279_880n, r279_881, r279_884, r279_886, r279_886n, r279_887, r279_889, r279_890, r279_891, r279_891n, r279_892, r279_894, r279_896, r279_897, r279_900, r279_900n, r279_901, r279_904, r279_906, r279_908, iI_add, e2, lw_g, lw_s, lw_u, dt, lc_le, eL_le, q2, k3, kl_n, kl_i, kl_r, kl_z, kl_l, kl_d, catS_0, catS_c, cat_i, cat_l, cat_d, cat_r, cat_n, kC_r, kC_x, Option.bind_some, Option.toList_some, Option.toList_none, List.cons_append, List.nil_append, gB0, gB1, gB2, gB3, gB4, rvB, nI_iI, i0, i1, l0_, wr_s, aup_s, and_true, true_and, and_self, eq_self, if_true, if_false, Nat.zero_le, Nat.reduceAdd, Nat.reduceLeDiff, gN_I, gN_L, gN_P, bI_0, bI_ok, z0, z1, Bool.true_eq, Bool.false_eq_true, not_true_eq_false, not_false_eq_true]
end
