/-! ===== the law's loop: one turn, all turns ===== -/
section
variable {b K x i n w : Nat} {xs : Nat → Int32} {g : Nat × Nat} {W : Dk} {h : aHf} {l3 l4 l5 : Option Value}
theorem lw_turn (hL : lwI h b K xs x g) (hI : Inv W) (hn : x + 404 ≤ n) (hK : K ≤ 260) (hi : i < 48) : lwE b K xs x g i n w (L 400 0 10 [some (.ref b), some (.ref x), some (.int (iI i)), l3, l4, l5] [] (dkW h x W, n, w, g)) := by
  have c1 : ¬ (48 : Int) ≤ i := by omega
  have d32 : ¬ (32 : Int) = 0 := by omega
  have d8 : ¬ (8 : Int) = 0 := by omega
  have ej : (i : Int) - (i : Int) / 32 * 32 = ((i % 32 : Nat) : Int) := by omega
  obtain ⟨v, hv⟩ := s_cell (d := 399) (h := dkW h x W) (r := (n, w, g)) (k := i % 32) (lw_b (W := W) hL) hK (by omega)
  have hv : aE 400 3 [.ref b, .int (iI ((i % 32 : Nat) : Int))] (dkW h x W, n, w, g) = some (.inl (some (.int v)), (dkW h x W, n, w, g)) := hv
  obtain ⟨W1, n1, w1, ha, I1, y1, y2, y3⟩ := s_act (d := 387) (x := x) (g := g) (h := h) (n := n) (w := w) (t := v >>> (iI ((i : Int) / 32 * 11) &&& 31)) hI
  have ha : aE 400 1 [.ref x, .int (v >>> (iI ((i : Int) / 32 * 11) &&& 31))] (dkW h x W, n, w, g) = some (.inl (some (.int (iI 1))), (dkW h x W1, n1, w1, g)) := ha
  have c10 : ¬ (1 : Int) = 0 := by omega
  have stA : L 400 0 10 [some (.ref b), some (.ref x), some (.int (iI i)), l3, l4, l5] [] (dkW h x W, n, w, g) = L 400 0 41 [some (.ref b), some (.ref x), some (.int (iI i)), l3, l4, l5] [] (dkW h x W1, n1, w1, g) := by
    rw [r0_10]
    simp (disch := omega) only [r0_11, r0_13, r0_16, r0_17, r0_18, r0_19, r0_21, r0_22, r0_25, r0_26, r0_28, r0_29, r0_31, r0_32, r0_33, r0_36, r0_39, r0_40, iI_le, iI_eq, iI_div, iI_mul, iI_sub, c1, c10, d32, ej, hv, ha, dk_0, kl_n, kl_i, kl_r, kl_z, kl_l, kl_d, catS_0, catS_c, cat_i, cat_l, cat_d, cat_r, cat_n, kC_r, kC_x, Option.bind_some, Option.toList_some, Option.toList_none, List.cons_append, List.nil_append, gB0, gB1, gB2, gB3, gB4, rvB, nI_iI, i0, i1, l0_, wr_s, aup_s, and_true, true_and, and_self, eq_self, if_true, if_false, Nat.zero_le, Nat.reduceAdd, Nat.reduceLeDiff, gN_I, gN_L, gN_P, bI_0, bI_ok, z0, z1, Bool.true_eq, Bool.false_eq_true, not_true_eq_false, not_false_eq_true]
  rw [stA]
  have ek : (i : Int) - (i : Int) / 8 * 8 = ((i % 8 : Nat) : Int) := by omega
  by_cases q : ((i % 8 : Nat) : Int) = 7
  · obtain ⟨C, hC⟩ := evS_ex I1
    obtain ⟨f, f1, f2⟩ := lw_st hL
    obtain ⟨V1, k1, g1⟩ := q_digest (d := 388) (n := n1) (w := w1) (g := g) (h := h) (x := x) I1 hC f1 f2
    obtain ⟨X, hX⟩ : ∃ X, X = dgV W1.1 W1.2.1.2.1 W1.2.1.2.2.1 C := ⟨_, rfl⟩
    rw [← hX] at g1
    have g1 : aE 400 85 [.ref x] (dkW h x W1, n1, w1, g) = some (.inl (some (.long X)), (dkW h x (pW W1 V1), n1, w1, g)) := g1
    have J1 := Inv_V I1 k1
    have g2 : aE 400 5 [.ref x] (dkW h x (pW W1 V1), n1, w1, g) = some (.inl (some (.int (iI 1))), (dkW (aup h n1 (aI .int 5 byF)) x (pW W1 V1), n1 + 1, w1 + 5, g)) := s_notesR (d := 387) J1 (by omega)
    have hL2 : lwI (aup h n1 (aI .int 5 byF)) b K xs x g := lw_aup hL (by omega)
    obtain ⟨V2, k2, g3⟩ := s_playedR (d := 387) (n := n1 + 1) (w := w1 + 5) (g := g) (h := aup h n1 (aI .int 5 byF)) (x := x) J1
    have g3 : aE 400 6 [.ref x] (dkW (aup h n1 (aI .int 5 byF)) x (pW W1 V1), n1 + 1, w1 + 5, g) = some (.inl (some (.int (iI 1))), (dkW (aup h n1 (aI .int 5 byF)) x (pW W1 V2), n1 + 1, w1 + 5, g)) := g3
    have J2 := Inv_V I1 k2
    obtain ⟨f', f1', f2'⟩ := lw_st hL2
    obtain ⟨v2, hv2⟩ := s_cell (d := 399) (h := dkW (aup h n1 (aI .int 5 byF)) x (pW W1 V2)) (r := (n1 + 1, w1 + 5, g)) (k := i % 32) (lw_b (W := pW W1 V2) hL2) hK (by omega)
    have hv2 : aE 400 3 [.ref b, .int (iI ((i % 32 : Nat) : Int))] (dkW (aup h n1 (aI .int 5 byF)) x (pW W1 V2), n1 + 1, w1 + 5, g) = some (.inl (some (.int v2)), (dkW (aup h n1 (aI .int 5 byF)) x (pW W1 V2), n1 + 1, w1 + 5, g)) := hv2
    have g4 : aE 400 7 [.ref x, .int v2] (dkW (aup h n1 (aI .int 5 byF)) x (pW W1 V2), n1 + 1, w1 + 5, g) = some (.inl (some (.int (iI 1))), (dkW (aup h n1 (aI .int 5 byF)) x (pW W1 V2), n1 + 1, w1 + 5, g)) := s_timesR (d := 387) (v := v2) J2 (f1' _) f2'
    obtain ⟨V3, k3, g5⟩ := q_digest (d := 388) (n := n1 + 1) (w := w1 + 5) (g := g) (h := aup h n1 (aI .int 5 byF)) (x := x) (W := pW W1 V2) J2 hC f1' f2'
    have g5 : aE 400 85 [.ref x] (dkW (aup h n1 (aI .int 5 byF)) x (pW W1 V2), n1 + 1, w1 + 5, g) = some (.inl (some (.long X)), (dkW (aup h n1 (aI .int 5 byF)) x (pW W1 V3), n1 + 1, w1 + 5, g)) := by
      rw [hX]
      exact g5
    have J3 := Inv_V I1 k3
    obtain ⟨W', n', w', l5', e9, I9, z1, z2, z3⟩ := lw_98 (i := i) (l5 := l5) (X := X) (V := V3) (n := n1 + 1) (w := w1 + 5) hL2 J3 hC hX
    refine ⟨_, W', n', w', some (.long X), none, l5', ?_, hL2, I9, by omega, by omega, by omega⟩
    change L 400 0 98 _ [] (dkW (aup h n1 (aI .int 5 byF)) x (pW W1 V3), n1 + 1, w1 + 5, g) = _ at e9
    rw [← e9]
    simp (disch := omega) only [r0_41, r0_42, r0_44, r0_45, r0_47, r0_50, r0_53, r0_54, r0_57, r0_58, r0_59, r0_62, r0_65, r0_66, r0_69, r0_72, r0_73, r0_74, r0_75, r0_77, r0_78, r0_81, r0_84, r0_87, r0_88, r0_91, r0_92, r0_93, r0_96, r0_97, iI_eq, iI_div, iI_mul, iI_sub, c10, d8, d32, ek, ej, q, dk_0, g1, g2, g3, hv2, g4, g5, lcmp_s, kl_n, kl_i, kl_r, kl_z, kl_l, kl_d, catS_0, catS_c, cat_i, cat_l, cat_d, cat_r, cat_n, kC_r, kC_x, Option.bind_some, Option.toList_some, Option.toList_none, List.cons_append, List.nil_append, gB0, gB1, gB2, gB3, gB4, rvB, nI_iI, i0, i1, l0_, wr_s, aup_s, and_true, true_and, and_self, eq_self, if_true, if_false, Nat.zero_le, Nat.reduceAdd, Nat.reduceLeDiff, gN_I, gN_L, gN_P, bI_0, bI_ok, z0, z1, Bool.true_eq, Bool.false_eq_true, not_true_eq_false, not_false_eq_true]
  · refine ⟨h, W1, n1, w1, l3, l4, l5, ?_, hL, I1, y1, by omega, by omega⟩
    simp (disch := omega) only [r0_41, r0_42, r0_44, r0_45, r0_47, r0_50, iI_eq, iI_div, iI_mul, iI_sub, d8, ek, q, kl_n, kl_i, kl_r, kl_z, kl_l, kl_d, catS_0, catS_c, cat_i, cat_l, cat_d, cat_r, cat_n, kC_r, kC_x, Option.bind_some, Option.toList_some, Option.toList_none, List.cons_append, List.nil_append, gB0, gB1, gB2, gB3, gB4, rvB, nI_iI, i0, i1, l0_, wr_s, aup_s, and_true, true_and, and_self, eq_self, if_true, if_false, Nat.zero_le, Nat.reduceAdd, Nat.reduceLeDiff, gN_I, gN_L, gN_P, bI_0, bI_ok, z0, z1, Bool.true_eq, Bool.false_eq_true, not_true_eq_false, not_false_eq_true]
theorem lw_loop (hK : K ≤ 260) : ∀ (m i : Nat) (h : aHf) (W : Dk) (n w : Nat) (l3 l4 l5 : Option Value), i + m = 48 → lwI h b K xs x g → Inv W → x + 404 ≤ n →
    ∃ H' : aH, L 400 0 10 [some (.ref b), some (.ref x), some (.int (iI i)), l3, l4, l5] [] (dkW h x W, n, w, g) = some (.inl (some (.int (iI 1))), H') ∧ H'.2.1 ≤ n + 3 * m ∧ H'.2.2.1 ≤ w + 17 * m := by
  intro m
  induction m with
  | zero =>
    intro i h W n w l3 l4 l5 hi _ _ _
    obtain rfl : i = 48 := by omega
    have c1 : (48 : Int) ≤ ((48 : Nat) : Int) := by omega
    refine ⟨(dkW h x W, n, w, g), ?_, Nat.le_refl _, Nat.le_refl _⟩
    rw [r0_10]
    simp (disch := omega) only [r0_11, r0_13, r0_179, r0_180, iI_le, c1, kl_n, kl_i, kl_r, kl_z, kl_l, kl_d, catS_0, catS_c, cat_i, cat_l, cat_d, cat_r, cat_n, kC_r, kC_x, Option.bind_some, Option.toList_some, Option.toList_none, List.cons_append, List.nil_append, gB0, gB1, gB2, gB3, gB4, rvB, nI_iI, i0, i1, l0_, wr_s, aup_s, and_true, true_and, and_self, eq_self, if_true, if_false, Nat.zero_le, Nat.reduceAdd, Nat.reduceLeDiff, gN_I, gN_L, gN_P, bI_0, bI_ok, z0, z1, Bool.true_eq, Bool.false_eq_true, not_true_eq_false, not_false_eq_true]
  | succ m ih =>
    intro i h W n w l3 l4 l5 hi hL hI hn
    obtain ⟨h', W', n', w', k3, k4, k5, e, hL', hI', z1, z2, z3⟩ := lw_turn (n := n) (w := w) (l3 := l3) (l4 := l4) (l5 := l5) hL hI hn hK (show i < 48 by omega)
    obtain ⟨H', e2, y1, y2⟩ := ih (i + 1) h' W' n' w' k3 k4 k5 (by omega) hL' hI' (by omega)
    refine ⟨H', ?_, by omega, by omega⟩
    rw [show ((i + 1 : Nat) : Int) = (i : Int) + 1 from rfl] at e2
    rw [e, r0_173, r0_176, iI_add, kl_r]
    exact e2
end
theorem law_start {n b stp ua : Nat} {h : aHf} : L 400 0 0 (entL [.ref b] 6) [] (h, n, 0, stp, ua) = L 400 0 10 [some (.ref b), some (.ref n), some (.int (iI 0)), none, none, none] [] (dkW h n W0, n + 404, 5689, stp, ua) := by
  have nd : aE 400 34 [.ref n] (aup h n (aB 9 [.null, .null, .null, .null, .int (iI 0)]), n + 1, 5, stp, ua) = some (.inl none, (dkW h n W0, n + 404, 5689, stp, ua)) := s_newDesk (d := 392) (a := n) (w := 5) (g := (stp, ua)) (h := h)
  show L 400 0 0 [some (.ref b), none, none, none, none, none] [] (h, n, 0, stp, ua) = _
  simp (disch := omega) only [r0_0, r0_3, r0_4, r0_7, r0_8, r0_9, nd, kl_n, kl_i, kl_r, kl_z, kl_l, kl_d, catS_0, catS_c, cat_i, cat_l, cat_d, cat_r, cat_n, kC_r, kC_x, Option.bind_some, Option.toList_some, Option.toList_none, List.cons_append, List.nil_append, gB0, gB1, gB2, gB3, gB4, rvB, nI_iI, i0, i1, l0_, wr_s, aup_s, and_true, true_and, and_self, eq_self, if_true, if_false, Nat.zero_le, Nat.reduceAdd, Nat.reduceLeDiff, gN_I, gN_L, gN_P, bI_0, bI_ok, z0, z1, Bool.true_eq, Bool.false_eq_true, not_true_eq_false, not_false_eq_true]
theorem law_ok : lawGoal := by
  intro n b stp ua K xs h hK hb hs hbn hsn hfr
  have hI : lwI h b K xs n (stp, ua) := ⟨hb, hs, hbn, hsn⟩
  obtain ⟨H', e, z1, z2⟩ := lw_loop (x := n) (g := (stp, ua)) hK 48 0 h W0 (n + 404) 5689 none none none (by omega) hI Inv_0 (Nat.le_refl _)
  have r1 : 548 ≤ room_1.cells := Nat.le_of_ble_eq_true rfl
  have r2 : 6505 ≤ room_1.slots := Nat.le_of_ble_eq_true rfl
  refine ⟨H', ?_, by omega, by omega⟩
  exact law_start.trans e
