/-! ===== the library sorts a row: parted by two of its values, from the five places on ===== -/
/-- the two values put where they belong -/
def dE (lo e x y l u : Nat) (D : Nat → Nat) : Nat → Nat := upN (upN (upN (upN D lo (D l)) l x) e (upN (upN D lo (D l)) l x u)) u y
theorem du_fin {lo e x y l u : Nat} {D : Nat → Nat} (hP : PI lo e x y l (l + 1) u D) (hlo : lo < e) : prm lo (e + 1) (upN (upN D lo x) e y) (dE lo e x y l u D) ∧ (∀ i, lo ≤ i → i < l → dE lo e x y l u D i ≤ x) ∧ dE lo e x y l u D l = x ∧ (∀ i, l < i → i < u → x ≤ dE lo e x y l u D i ∧ dE lo e x y l u D i ≤ y) ∧ dE lo e x y l u D u = y ∧ ∀ i, u < i → i < e + 1 → y ≤ dE lo e x y l u D i := by
  obtain ⟨g1, g2, g3, g4⟩ := hP
  have z2 : ∀ i, i ≠ u → i ≠ e → i ≠ l → i ≠ lo → dE lo e x y l u D i = D i := fun i h1 h2 h3 h4 => by
    unfold dE
    rw [upN_o h1, upN_o h2, upN_o h3, upN_o h4]
  refine ⟨?_, fun i h1 h2 => ?_, ?_, fun i h1 h2 => ?_, upN_at, fun i h1 h2 => ?_⟩
  · have p1 := hole_q (a := lo) (b := e + 1) (i := lo) (j := l) (x := x) (C := upN D e y) (by omega) (by omega)
    have e1 : upN D e y l = D l := upN_o (by omega)
    rw [e1, upN_c (show e ≠ lo by omega), upN_c (show e ≠ lo by omega), upN_c (show e ≠ l by omega)] at p1
    have p2 := hole_q (a := lo) (b := e + 1) (i := e) (j := u) (x := y) (C := upN (upN D lo (D l)) l x) (by omega) (by omega)
    exact prm_t p1 p2
  · unfold dE
    rw [upN_o (by omega), upN_o (by omega), upN_o (by omega)]
    by_cases q : i = lo
    · rw [q, upN_at]
      have := g2 l (by omega) (Nat.le_refl _)
      omega
    · rw [upN_o q]
      have := g2 i (by omega) (by omega)
      omega
  · unfold dE
    rw [upN_o (by omega), upN_o (by omega), upN_at]
  · rw [z2 i (by omega) (by omega) (by omega) (by omega)]
    exact g3 i (by omega) h2
  · by_cases q : i = e
    · rw [q]
      unfold dE
      rw [upN_o (by omega), upN_at, upN_o (by omega), upN_o (by omega)]
      have := g4 u (Nat.le_refl _) (by omega)
      omega
    · rw [z2 i (by omega) q (by omega) (by omega)]
      have := g4 i (by omega) (by omega)
      omega
theorem du_beg {lo e e1 e5 : Nat} {C : Nat → Nat} (h : lo < e1 ∧ e1 < e5 ∧ e5 < e) : prm lo (e + 1) C (upN (upN (upN (upN C e1 (C lo)) e5 (C e)) lo (C e1)) e (C e5)) := by
  have p1 := hole_q (a := lo) (b := e + 1) (i := e1) (j := lo) (x := C e1) (C := C) (by omega) (by omega)
  have p2 := hole_q (a := lo) (b := e + 1) (i := e5) (j := e) (x := C e5) (C := upN (upN C e1 (C lo)) lo (C e1)) (by omega) (by omega)
  have a1 : upN (upN C e1 (C lo)) lo (C e1) e5 = C e5 := by rw [upN_o (by omega), upN_o (by omega)]
  have a2 : upN (upN C e1 (C lo)) lo (C e1) e = C e := by rw [upN_o (by omega), upN_o (by omega)]
  have p3 := upN_id (C := upN (upN C e1 (C lo)) lo (C e1)) (i := e5)
  rw [a1] at p3
  rw [p3, a2] at p2
  rw [upN_id] at p1
  refine prm_e (prm_t p1 p2) ?_
  rw [upN_c (show lo ≠ e5 by omega)]
section
variable {d : Nat} {h : aHf} {r : Nat × Nat × Nat × Nat} {p N b lo hi e sz : Nat}
theorem ts_446 {e1 e2 e3 e4 e5 : Nat} {C : Nat → Nat} (hN : N ≤ 2000) (hh : hi ≤ N) (he : e1 < e2 ∧ e2 < e3 ∧ e3 < e4 ∧ e4 < e5 ∧ e5 < hi) (hC : ∀ k, bd (C k)) :
    ((C e1 < C e2 ∧ C e2 < C e3 ∧ C e3 < C e4 ∧ C e4 < C e5) ∧ ∀ l7 l13 l15 l16 l17 l18 l19 l20 l21 l22 l23 l24 : Option Value, L d 279 446 [some .null, some (.ref p), some (.int (iI b)), some (.int (iI lo)), some (.int (iI hi)), some (.int (iI e)), some (.int (iI sz)), l7, some (.int (iI e1)), some (.int (iI e5)), some (.int (iI e3)), some (.int (iI e2)), some (.int (iI e4)), l13, none, l15, l16, l17, l18, l19, l20, l21, l22, l23, l24] [] (lw h p N C, r) = L d 279 501 [some .null, some (.ref p), some (.int (iI b)), some (.int (iI lo)), some (.int (iI hi)), some (.int (iI e)), some (.int (iI sz)), l7, some (.int (iI e1)), some (.int (iI e5)), some (.int (iI e3)), some (.int (iI e2)), some (.int (iI e4)), l13, none, some (.int (iI lo)), some (.int (iI e)), l17, l18, l19, l20, l21, l22, l23, l24] [] (lw h p N C, r)) ∨ ∀ l7 l13 l15 l16 l17 l18 l19 l20 l21 l22 l23 l24 : Option Value, L d 279 446 [some .null, some (.ref p), some (.int (iI b)), some (.int (iI lo)), some (.int (iI hi)), some (.int (iI e)), some (.int (iI sz)), l7, some (.int (iI e1)), some (.int (iI e5)), some (.int (iI e3)), some (.int (iI e2)), some (.int (iI e4)), l13, none, l15, l16, l17, l18, l19, l20, l21, l22, l23, l24] [] (lw h p N C, r) = L d 279 795 [some .null, some (.ref p), some (.int (iI b)), some (.int (iI lo)), some (.int (iI hi)), some (.int (iI e)), some (.int (iI sz)), l7, some (.int (iI e1)), some (.int (iI e5)), some (.int (iI e3)), some (.int (iI e2)), some (.int (iI e4)), l13, none, some (.int (iI lo)), some (.int (iI e)), l17, l18, l19, l20, l21, l22, l23, l24] [] (lw h p N C, r) := by
  have b1 : C e1 < 4398046511104 := hC _
  have b2 : C e2 < 4398046511104 := hC _
  have b3 : C e3 < 4398046511104 := hC _
  have b4 : C e4 < 4398046511104 := hC _
  have b5 : C e5 < 4398046511104 := hC _
  by_cases q1 : C e2 ≤ C e1
  · refine Or.inr (fun l7 l13 l15 l16 l17 l18 l19 l20 l21 l22 l23 l24 => ?_)
    simp (disch := omega) only [r279_446, r279_447, r279_449, r279_451, r279_453, r279_453n, r279_454, r279_456, r279_457, r279_457n, r279_458, r279_460, r279_461, r279_462, r279_465, r279_465n, r279_466, r279_468, r279_469, r279_469n, r279_470, r279_472, r279_473, r279_474, r279_477, r279_477n, r279_478, r279_480, r279_481, r279_481n, r279_482, r279_484, r279_485, r279_486, r279_489, r279_489n, r279_490, r279_492, r279_493, r279_493n, r279_494, r279_496, r279_497, r279_498, lw_g, lc_ge, eL_le, q1, kl_n, kl_i, kl_r, kl_z, kl_l, kl_d, catS_0, catS_c, cat_i, cat_l, cat_d, cat_r, cat_n, kC_r, kC_x, Option.bind_some, Option.toList_some, Option.toList_none, List.cons_append, List.nil_append, gB0, gB1, gB2, gB3, gB4, rvB, nI_iI, i0, i1, l0_, wr_s, aup_s, and_true, true_and, and_self, eq_self, if_true, if_false, Nat.zero_le, Nat.reduceAdd, Nat.reduceLeDiff, gN_I, gN_L, gN_P, bI_0, bI_ok, z0, z1, Bool.true_eq, Bool.false_eq_true, not_true_eq_false, not_false_eq_true]
  · by_cases q2 : C e3 ≤ C e2
    · refine Or.inr (fun l7 l13 l15 l16 l17 l18 l19 l20 l21 l22 l23 l24 => ?_)
      simp (disch := omega) only [r279_446, r279_447, r279_449, r279_451, r279_453, r279_453n, r279_454, r279_456, r279_457, r279_457n, r279_458, r279_460, r279_461, r279_462, r279_465, r279_465n, r279_466, r279_468, r279_469, r279_469n, r279_470, r279_472, r279_473, r279_474, r279_477, r279_477n, r279_478, r279_480, r279_481, r279_481n, r279_482, r279_484, r279_485, r279_486, r279_489, r279_489n, r279_490, r279_492, r279_493, r279_493n, r279_494, r279_496, r279_497, r279_498, lw_g, lc_ge, eL_le, q1, q2, kl_n, kl_i, kl_r, kl_z, kl_l, kl_d, catS_0, catS_c, cat_i, cat_l, cat_d, cat_r, cat_n, kC_r, kC_x, Option.bind_some, Option.toList_some, Option.toList_none, List.cons_append, List.nil_append, gB0, gB1, gB2, gB3, gB4, rvB, nI_iI, i0, i1, l0_, wr_s, aup_s, and_true, true_and, and_self, eq_self, if_true, if_false, Nat.zero_le, Nat.reduceAdd, Nat.reduceLeDiff, gN_I, gN_L, gN_P, bI_0, bI_ok, z0, z1, Bool.true_eq, Bool.false_eq_true, not_true_eq_false, not_false_eq_true]
    · by_cases q3 : C e4 ≤ C e3
      · refine Or.inr (fun l7 l13 l15 l16 l17 l18 l19 l20 l21 l22 l23 l24 => ?_)
        simp (disch := omega) only [r279_446, r279_447, r279_449, r279_451, r279_453, r279_453n, r279_454, r279_456, r279_457, r279_457n, r279_458, r279_460, r279_461, r279_462, r279_465, r279_465n, r279_466, r279_468, r279_469, r279_469n, r279_470, r279_472, r279_473, r279_474, r279_477, r279_477n, r279_478, r279_480, r279_481, r279_481n, r279_482, r279_484, r279_485, r279_486, r279_489, r279_489n, r279_490, r279_492, r279_493, r279_493n, r279_494, r279_496, r279_497, r279_498, lw_g, lc_ge, eL_le, q1, q2, q3, kl_n, kl_i, kl_r, kl_z, kl_l, kl_d, catS_0, catS_c, cat_i, cat_l, cat_d, cat_r, cat_n, kC_r, kC_x, Option.bind_some, Option.toList_some, Option.toList_none, List.cons_append, List.nil_append, gB0, gB1, gB2, gB3, gB4, rvB, nI_iI, i0, i1, l0_, wr_s, aup_s, and_true, true_and, and_self, eq_self, if_true, if_false, Nat.zero_le, Nat.reduceAdd, Nat.reduceLeDiff, gN_I, gN_L, gN_P, bI_0, bI_ok, z0, z1, Bool.true_eq, Bool.false_eq_true, not_true_eq_false, not_false_eq_true]
      · by_cases q4 : C e5 ≤ C e4
        · refine Or.inr (fun l7 l13 l15 l16 l17 l18 l19 l20 l21 l22 l23 l24 => ?_)
          simp (disch := omega) only [r279_446, r279_447, r279_449, r279_451, r279_453, r279_453n, r279_454, r279_456, r279_457, r279_457n, r279_458, r279_460, r279_461, r279_462, r279_465, r279_465n, r279_466, r279_468, r279_469, r279_469n, r279_470, r279_472, r279_473, r279_474, r279_477, r279_477n, r279_478, r279_480, r279_481, r279_481n, r279_482, r279_484, r279_485, r279_486, r279_489, r279_489n, r279_490, r279_492, r279_493, r279_493n, r279_494, r279_496, r279_497, r279_498, lw_g, lc_ge, eL_le, q1, q2, q3, q4, kl_n, kl_i, kl_r, kl_z, kl_l, kl_d, catS_0, catS_c, cat_i, cat_l, cat_d, cat_r, cat_n, kC_r, kC_x, Option.bind_some, Option.toList_some, Option.toList_none, List.cons_append, List.nil_append, gB0, gB1, gB2, gB3, gB4, rvB, nI_iI, i0, i1, l0_, wr_s, aup_s, and_true, true_and, and_self, eq_self, if_true, if_false, Nat.zero_le, Nat.reduceAdd, Nat.reduceLeDiff, gN_I, gN_L, gN_P, bI_0, bI_ok, z0, z1, Bool.true_eq, Bool.false_eq_true, not_true_eq_false, not_false_eq_true]
        · refine Or.inl ⟨by omega, fun l7 l13 l15 l16 l17 l18 l19 l20 l21 l22 l23 l24 => ?_⟩
          simp (disch := omega) only [r279_446, r279_447, r279_449, r279_451, r279_453, r279_453n, r279_454, r279_456, r279_457, r279_457n, r279_458, r279_460, r279_461, r279_462, r279_465, r279_465n, r279_466, r279_468, r279_469, r279_469n, r279_470, r279_472, r279_473, r279_474, r279_477, r279_477n, r279_478, r279_480, r279_481, r279_481n, r279_482, r279_484, r279_485, r279_486, r279_489, r279_489n, r279_490, r279_492, r279_493, r279_493n, r279_494, r279_496, r279_497, r279_498, lw_g, lc_ge, eL_le, q1, q2, q3, q4, kl_n, kl_i, kl_r, kl_z, kl_l, kl_d, catS_0, catS_c, cat_i, cat_l, cat_d, cat_r, cat_n, kC_r, kC_x, Option.bind_some, Option.toList_some, Option.toList_none, List.cons_append, List.nil_append, gB0, gB1, gB2, gB3, gB4, rvB, nI_iI, i0, i1, l0_, wr_s, aup_s, and_true, true_and, and_self, eq_self, if_true, if_false, Nat.zero_le, Nat.reduceAdd, Nat.reduceLeDiff, gN_I, gN_L, gN_P, bI_0, bI_ok, z0, z1, Bool.true_eq, Bool.false_eq_true, not_true_eq_false, not_false_eq_true]
theorem du_501 {l7 l13 l17 l18 l19 l20 l21 l22 l23 l24 : Option Value} {e1 e2 e3 e4 e5 : Nat} {C : Nat → Nat} (hN : N ≤ 2000) (hh : e + 1 = hi ∧ hi ≤ N) (hz : sz ≤ 4096) (he : lo < e1 ∧ e1 < e2 ∧ e2 < e3 ∧ e3 < e4 ∧ e4 < e5 ∧ e5 < e) (hC : ∀ k, bd (C k)) (hq : C e1 < C e2 ∧ C e2 < C e3 ∧ C e3 < C e4 ∧ C e4 < C e5) :
    ∃ E l u z21 z22 v23 v24, (lo ≤ l ∧ l < u ∧ u < hi) ∧ prm lo hi C E ∧ (∀ i, lo ≤ i → i < l → E i ≤ C e1) ∧ E l = C e1 ∧ (∀ i, l < i → i < u → C e1 ≤ E i ∧ E i ≤ C e5) ∧ E u = C e5 ∧ (∀ i, u < i → i < hi → C e5 ≤ E i) ∧
    L d 279 501 [some .null, some (.ref p), some (.int (iI b)), some (.int (iI lo)), some (.int (iI hi)), some (.int (iI e)), some (.int (iI sz)), l7, some (.int (iI e1)), some (.int (iI e5)), some (.int (iI e3)), some (.int (iI e2)), some (.int (iI e4)), l13, none, some (.int (iI lo)), some (.int (iI e)), l17, l18, l19, l20, l21, l22, l23, l24] [] (lw h p N C, r) = L d 279 764 [some .null, some (.ref p), some (.int (iI b)), some (.int (iI lo)), some (.int (iI hi)), some (.int (iI e)), some (.int (iI sz)), l7, some (.int (iI e1)), some (.int (iI e5)), some (.int (iI e3)), some (.int (iI e2)), some (.int (iI e4)), l13, none, some (.int (iI l)), some (.int (iI u)), some (.long (lI (C e1))), none, some (.long (lI (C e5))), none, some (.int z21), some (.int z22), v23, v24] [] (lw h p N E, r) := by
  obtain ⟨rfl, hh⟩ := hh
  obtain ⟨h1, h2, h3, h4, h5, h6⟩ := he
  have r1 : upN C e1 (C lo) e = C e := upN_o (by omega)
  have D2 : upN (upN C e1 (C lo)) e5 (C e) e2 = C e2 := by rw [upN_o (by omega), upN_o (by omega)]
  have D4 : upN (upN C e1 (C lo)) e5 (C e) e4 = C e4 := by rw [upN_o (by omega), upN_o (by omega)]
  have hD : ∀ k, bd (upN (upN C e1 (C lo)) e5 (C e) k) := upN_ok (hC _) (upN_ok (hC _) hC)
  have pb := du_beg (C := C) (lo := lo) (e := e) (e1 := e1) (e5 := e5) (by omega)
  have k0 : L d 279 501 [some .null, some (.ref p), some (.int (iI b)), some (.int (iI lo)), some (.int (iI (e + 1 : Nat))), some (.int (iI e)), some (.int (iI sz)), l7, some (.int (iI e1)), some (.int (iI e5)), some (.int (iI e3)), some (.int (iI e2)), some (.int (iI e4)), l13, none, some (.int (iI lo)), some (.int (iI e)), l17, l18, l19, l20, l21, l22, l23, l24] [] (lw h p N C, r) = L d 279 529 [some .null, some (.ref p), some (.int (iI b)), some (.int (iI lo)), some (.int (iI (e + 1 : Nat))), some (.int (iI e)), some (.int (iI sz)), l7, some (.int (iI e1)), some (.int (iI e5)), some (.int (iI e3)), some (.int (iI e2)), some (.int (iI e4)), l13, none, some (.int (iI lo)), some (.int (iI e)), some (.long (lI (C e1))), none, some (.long (lI (C e5))), none, l21, l22, l23, l24] [] (lw h p N (upN (upN C e1 (C lo)) e5 (C e)), r) := by
    simp (disch := omega) only [r279_501, r279_501n, r279_502, r279_504, r279_505, r279_507, r279_507n, r279_508, r279_510, r279_511, r279_513, r279_513n, r279_514, r279_516, r279_516n, r279_517, r279_519, r279_520, r279_521, r279_521n, r279_522, r279_524, r279_524n, r279_525, r279_527, r279_528, lw_g, lw_s, lw_u, r1, kl_n, kl_i, kl_r, kl_z, kl_l, kl_d, catS_0, catS_c, cat_i, cat_l, cat_d, cat_r, cat_n, kC_r, kC_x, Option.bind_some, Option.toList_some, Option.toList_none, List.cons_append, List.nil_append, gB0, gB1, gB2, gB3, gB4, rvB, nI_iI, i0, i1, l0_, wr_s, aup_s, and_true, true_and, and_self, eq_self, if_true, if_false, Nat.zero_le, Nat.reduceAdd, Nat.reduceLeDiff, gN_I, gN_L, gN_P, bI_0, bI_ok, z0, z1, Bool.true_eq, Bool.false_eq_true, not_true_eq_false, not_false_eq_true]
  rw [k0]
  generalize upN (upN C e1 (C lo)) e5 (C e) = D at D2 D4 hD pb
  obtain ⟨t, t1, t2, k1⟩ := up_529 (d := d) (h := h) (r := r) (p := p) (b := b) (lo := lo) (hi := e + 1) (e := e) (sz := sz) (x := C e1) (q := e2) (D := D) hN (by omega) (hC _) hD (by rw [D2]; omega) (e2 - lo - 1) lo (by omega)
  obtain ⟨v, v1, v2, k2⟩ := dn_545 (d := d) (h := h) (r := r) (p := p) (b := b) (lo := lo) (hi := e + 1) (e := e) (sz := sz) (y := C e5) (q := e4) (l := t + 1) (D := D) hN (hC _) hD (by rw [D4]; omega) (e - e4 - 1) e (by omega) (by omega)
  have hP : PI lo e (C e1) (C e5) t (v + 1) (v + 1) D := ⟨by omega, t2, fun i h7 h8 => by omega, fun i h7 h8 => v2 i (by omega) h8⟩
  obtain ⟨D', l, u, z22, v23, v24, q1, q2, k3⟩ := pt_575 (d := d) (h := h) (r := r) (p := p) (b := b) (lo := lo) (hi := e + 1) (e := e) (sz := sz) (x := C e1) (y := C e5) (l21 := iI t) hN (by omega) (hC _) (hC _) (by omega) (v - t) t (v + 1) (v + 1) D (by omega) hD hP l23 l24
  obtain ⟨f1, f2, f3, f4, f5, f6⟩ := du_fin q1 (by omega)
  have e1' : ((t + 1 : Nat) : Int) + -1 = ((t : Nat) : Int) := by omega
  have e2' : ((v : Nat) : Int) + 1 = ((v + 1 : Nat) : Int) := by omega
  have g := q1.1
  refine ⟨dE lo e (C e1) (C e5) l u D', l, u, iI t, z22, v23, v24, by omega, prm_t pb (prm_t (prm_w (prm_w q2 (Or.inl (Nat.lt_succ_self _)) (Nat.le_succ lo) (Nat.le_refl _) (Nat.le_refl _) (by omega)) (Or.inr (Nat.le_refl _)) (Nat.le_refl _) (by omega) (by omega) (by omega)) f1), f2, f3, f4, f5, f6, ?_⟩
  rw [k1, k2]
  simp (disch := omega) only [r279_561, r279_564, r279_566, r279_568, r279_571, r279_573, iI_add, e1', e2', kl_n, kl_i, kl_r, kl_z, kl_l, kl_d, catS_0, catS_c, cat_i, cat_l, cat_d, cat_r, cat_n, kC_r, kC_x, Option.bind_some, Option.toList_some, Option.toList_none, List.cons_append, List.nil_append, gB0, gB1, gB2, gB3, gB4, rvB, nI_iI, i0, i1, l0_, wr_s, aup_s, and_true, true_and, and_self, eq_self, if_true, if_false, Nat.zero_le, Nat.reduceAdd, Nat.reduceLeDiff, gN_I, gN_L, gN_P, bI_0, bI_ok, z0, z1, Bool.true_eq, Bool.false_eq_true, not_true_eq_false, not_false_eq_true]
  rw [k3]
  simp (disch := omega) only [r279_696, r279_696n, r279_697, r279_698, r279_698n, r279_699, r279_701, r279_702, r279_703, r279_703n, r279_704, r279_706, r279_708, r279_709, r279_709n, r279_710, r279_712, r279_712n, r279_713, r279_715, r279_716, r279_717, r279_717n, r279_718, r279_720, r279_722, r279_723, r279_725, r279_728, r279_731, r279_731n, r279_732, r279_732n, r279_735, r279_735n, r279_736, r279_737, r279_738, r279_739, r279_741, r279_742, r279_743, r279_748, r279_748n, r279_749, r279_750, r279_751, r279_752, r279_754, r279_755, r279_756, r279_761, lw_g, lw_s, lw_u, iI_le, show (sz : Int) ≤ 4096 by omega, kl_n, kl_i, kl_r, kl_z, kl_l, kl_d, catS_0, catS_c, cat_i, cat_l, cat_d, cat_r, cat_n, kC_r, kC_x, Option.bind_some, Option.toList_some, Option.toList_none, List.cons_append, List.nil_append, gB0, gB1, gB2, gB3, gB4, rvB, nI_iI, i0, i1, l0_, wr_s, aup_s, and_true, true_and, and_self, eq_self, if_true, if_false, Nat.zero_le, Nat.reduceAdd, Nat.reduceLeDiff, gN_I, gN_L, gN_P, bI_0, bI_ok, z0, z1, Bool.true_eq, Bool.false_eq_true, not_true_eq_false, not_false_eq_true]
  rfl
theorem sg_795 {l7 l13 l17 l18 l19 l20 l21 l22 l23 l24 : Option Value} {e1 e2 e3 e4 e5 : Nat} {C : Nat → Nat} (hN : N ≤ 2000) (hh : e + 1 = hi ∧ hi ≤ N) (hz : sz ≤ 4096) (he : lo < e3 ∧ e3 < e) (hC : ∀ k, bd (C k)) :
    ∃ E l u z19 v20 v21, (lo ≤ l ∧ l < u ∧ u ≤ hi) ∧ prm lo hi C E ∧ (∀ i, lo ≤ i → i < l → E i ≤ C e3) ∧ (∀ i, l ≤ i → i < u → E i = C e3) ∧ (∀ i, u ≤ i → i < hi → C e3 ≤ E i) ∧
    L d 279 795 [some .null, some (.ref p), some (.int (iI b)), some (.int (iI lo)), some (.int (iI hi)), some (.int (iI e)), some (.int (iI sz)), l7, some (.int (iI e1)), some (.int (iI e5)), some (.int (iI e3)), some (.int (iI e2)), some (.int (iI e4)), l13, none, some (.int (iI lo)), some (.int (iI e)), l17, l18, l19, l20, l21, l22, l23, l24] [] (lw h p N C, r) = L d 279 951 [some .null, some (.ref p), some (.int (iI b)), some (.int (iI lo)), some (.int (iI hi)), some (.int (iI e)), some (.int (iI sz)), l7, some (.int (iI e1)), some (.int (iI e5)), some (.int (iI e3)), some (.int (iI e2)), some (.int (iI e4)), l13, none, some (.int (iI l)), some (.int (iI u)), some (.long (lI (C e3))), none, some (.int z19), v20, v21, l22, l23, l24] [] (lw h p N E, r) := by
  obtain ⟨rfl, hh⟩ := hh
  have hD : ∀ k, bd (upN C e3 (C lo) k) := upN_ok (hC _) hC
  have e2' : ((e : Nat) : Int) + 1 = ((e + 1 : Nat) : Int) := by omega
  have pb := hole_q (a := lo) (b := e + 1) (i := e3) (j := lo) (x := C e3) (C := C) (by omega) (by omega)
  rw [upN_id] at pb
  have hP : SI lo (e + 1) (C e3) lo (e + 1) (e + 1) (upN C e3 (C lo)) := ⟨by omega, fun i h7 h8 => by omega, fun i h7 h8 => by omega, fun i h7 h8 => by omega⟩
  obtain ⟨D', l, u, z19, v20, v21, q1, q2, k3⟩ := pt_816 (d := d) (h := h) (r := r) (p := p) (b := b) (lo := lo) (hi := e + 1) (e := e) (sz := sz) (x := C e3) hN hh (hC _) (e - lo) lo (e + 1) (e + 1) (upN C e3 (C lo)) (by omega) hD hP l20 l21
  obtain ⟨g, g2, g3, g4⟩ := q1
  have p2 := hole_q (a := lo) (b := e + 1) (i := lo) (j := l) (x := C e3) (C := D') (by omega) (by omega)
  refine ⟨upN (upN D' lo (D' l)) l (C e3), l, u, z19, v20, v21, by omega, prm_t pb (prm_t (prm_w q2 (Or.inl (Nat.lt_succ_self _)) (Nat.le_succ lo) (Nat.le_refl _) (Nat.le_refl _) (by omega)) p2), fun i h1 h2 => ?_, fun i h1 h2 => ?_, fun i h1 h2 => ?_, ?_⟩
  · rw [upN_o (by omega)]
    by_cases q : i = lo
    · rw [q, upN_at]
      have := g2 l (by omega) (Nat.le_refl _)
      omega
    · rw [upN_o q]
      have := g2 i (by omega) (by omega)
      omega
  · by_cases q : i = l
    · rw [q, upN_at]
    · rw [upN_o q, upN_o (by omega)]
      exact g3 i (by omega) h2
  · rw [upN_o (by omega), upN_o (by omega)]
    have := g4 i h1 h2
    omega
  · have k0 : L d 279 795 [some .null, some (.ref p), some (.int (iI b)), some (.int (iI lo)), some (.int (iI (e + 1 : Nat))), some (.int (iI e)), some (.int (iI sz)), l7, some (.int (iI e1)), some (.int (iI e5)), some (.int (iI e3)), some (.int (iI e2)), some (.int (iI e4)), l13, none, some (.int (iI lo)), some (.int (iI e)), l17, l18, l19, l20, l21, l22, l23, l24] [] (lw h p N C, r) = L d 279 816 [some .null, some (.ref p), some (.int (iI b)), some (.int (iI lo)), some (.int (iI (e + 1 : Nat))), some (.int (iI e)), some (.int (iI sz)), l7, some (.int (iI e1)), some (.int (iI e5)), some (.int (iI e3)), some (.int (iI e2)), some (.int (iI e4)), l13, none, some (.int (iI lo)), some (.int (iI (e + 1 : Nat))), some (.long (lI (C e3))), none, some (.int (iI (e + 1 : Nat))), l20, l21, l22, l23, l24] [] (lw h p N (upN C e3 (C lo)), r) := by
      simp (disch := omega) only [r279_795, r279_795n, r279_796, r279_798, r279_799, r279_801, r279_801n, r279_802, r279_804, r279_804n, r279_805, r279_807, r279_808, r279_809, r279_812, r279_814, lw_g, lw_s, lw_u, iI_add, e2', kl_n, kl_i, kl_r, kl_z, kl_l, kl_d, catS_0, catS_c, cat_i, cat_l, cat_d, cat_r, cat_n, kC_r, kC_x, Option.bind_some, Option.toList_some, Option.toList_none, List.cons_append, List.nil_append, gB0, gB1, gB2, gB3, gB4, rvB, nI_iI, i0, i1, l0_, wr_s, aup_s, and_true, true_and, and_self, eq_self, if_true, if_false, Nat.zero_le, Nat.reduceAdd, Nat.reduceLeDiff, gN_I, gN_L, gN_P, bI_0, bI_ok, z0, z1, Bool.true_eq, Bool.false_eq_true, not_true_eq_false, not_false_eq_true]
    rw [k0, k3]
    simp (disch := omega) only [r279_912, r279_912n, r279_913, r279_914, r279_914n, r279_915, r279_917, r279_918, r279_919, r279_919n, r279_920, r279_922, r279_924, r279_925, r279_927, r279_930, r279_933, r279_933n, r279_934, r279_934n, r279_937, r279_937n, r279_938, r279_939, r279_940, r279_941, r279_943, r279_948, lw_g, lw_s, lw_u, iI_le, show (sz : Int) ≤ 4096 by omega, kl_n, kl_i, kl_r, kl_z, kl_l, kl_d, catS_0, catS_c, cat_i, cat_l, cat_d, cat_r, cat_n, kC_r, kC_x, Option.bind_some, Option.toList_some, Option.toList_none, List.cons_append, List.nil_append, gB0, gB1, gB2, gB3, gB4, rvB, nI_iI, i0, i1, l0_, wr_s, aup_s, and_true, true_and, and_self, eq_self, if_true, if_false, Nat.zero_le, Nat.reduceAdd, Nat.reduceLeDiff, gN_I, gN_L, gN_P, bI_0, bI_ok, z0, z1, Bool.true_eq, Bool.false_eq_true, not_true_eq_false, not_false_eq_true]
end
