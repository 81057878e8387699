/-! ===== played: note by note, track by track ===== -/
section
variable {d : Nat} {h : aHf} {r : Nat × Nat × Nat × Nat} {x : Nat} {W : Dk} {e : EV}
theorem evl_loop {c : Nat} {D : Int} (hS : sgOk W.1) (he : evOk e) (hc : cOk c) (hD : -48 ≤ D ∧ D ≤ 48) (h2 : cS c < W.1.2.2.2.2.2.1) : ∀ m j : Nat, j + m = W.1.2.2.2.2.2.2 →
    L (d + 3) 156 91 [some (.ref (x + 401)), some (.long (lI c)), none, some (.ref (x + 1 + 17)), some (.int (iI D)), some (.int (iI (cS c))), some (.int (iI (cL c))), some (.int (iI ((W.1.2.2.2.2.2.1 : Int) - W.1.2.2.2.2.1))), some (.int (iI j))] [] (dkW h x (W.1, W.2.1, W.2.2.1, ((evL c W.1.2.2.2.2.1 W.1.2.2.2.2.2.1 D j e).1, (evL c W.1.2.2.2.2.1 W.1.2.2.2.2.2.1 D j e).2, W.2.2.2.1.2.2), W.2.2.2.2), r) =
    some (.inl none, (dkW h x (W.1, W.2.1, W.2.2.1, ((evL c W.1.2.2.2.2.1 W.1.2.2.2.2.2.1 D W.1.2.2.2.2.2.2 e).1, (evL c W.1.2.2.2.2.1 W.1.2.2.2.2.2.1 D W.1.2.2.2.2.2.2 e).2, W.2.2.2.1.2.2), W.2.2.2.2), r)) := by
  have hl := sgOk_lp hS
  have a1 := cS_lt c
  have a2 := cL_lt c
  intro m
  induction m with
  | zero =>
    intro j hj
    obtain rfl : j = W.1.2.2.2.2.2.2 := by omega
    have c1 : (W.1.2.2.2.2.2.2 : Int) ≤ W.1.2.2.2.2.2.2 := by omega
    rw [r156_91]
    simp (disch := omega) only [r156_0, r156_1, r156_4, r156_6, r156_7, r156_10, r156_12, r156_13, r156_16, r156_17, r156_20, r156_21, r156_23, r156_24, r156_27, r156_30, r156_32, r156_33, r156_36, r156_39, r156_40, r156_41, r156_43, r156_45, r156_46, r156_48, r156_51, r156_54, r156_56, r156_57, r156_60, r156_63, r156_64, r156_65, r156_67, r156_68, r156_71, r156_72, r156_73, r156_75, r156_76, r156_77, r156_79, r156_80, r156_82, r156_85, r156_88, r156_89, r156_93, r156_94, r156_97, r156_100, r156_101, r156_102, r156_104, r156_106, r156_108, r156_109, r156_110, r156_112, r156_113, r156_115, r156_116, r156_119, r156_121, r156_122, r156_125, r156_128, r156_131, r156_134, dk_18, iI_le, c1, kl_n, kl_i, kl_r, kl_z, kl_l, kl_d, catS_0, catS_c, cat_i, cat_l, cat_d, cat_r, cat_n, kC_r, kC_x, Option.bind_some, Option.toList_some, Option.toList_none, List.cons_append, List.nil_append, gB0, gB1, gB2, gB3, gB4, rvB, nI_iI, i0, i1, l0_, wr_s, aup_s, and_true, true_and, and_self, eq_self, if_true, if_false, Nat.zero_le, Nat.reduceAdd, Nat.reduceLeDiff, gN_I, gN_L, gN_P, bI_0, bI_ok, z0, z1, Bool.true_eq, Bool.false_eq_true, not_true_eq_false, not_false_eq_true]
  | succ m ih =>
    intro j hj
    have c1 : ¬ (W.1.2.2.2.2.2.2 : Int) ≤ j := by omega
    have e1 : (j : Int) + 1 = ((j + 1 : Nat) : Int) := by omega
    have b1 := rnd_b (show j ≤ 8 by omega) hl.1 hl.2.1
    have k0 := evL_ok (D := D) he hc hl.1 hl.2.1 hD.2 j (by omega)
    have h9 := ih (j + 1) (by omega)
    have e4 : evL c W.1.2.2.2.2.1 W.1.2.2.2.2.2.1 D (j + 1) e = evO c ((cS c : Int) + j * ((W.1.2.2.2.2.2.1 : Int) - W.1.2.2.2.2.1) + D) (min (cL c) (W.1.2.2.2.2.2.1 - cS c)) (evL c W.1.2.2.2.2.1 W.1.2.2.2.2.2.1 D j e) := rfl
    rw [e4] at h9
    generalize hz : (j : Int) * ((W.1.2.2.2.2.2.1 : Int) - W.1.2.2.2.2.1) = z at b1 h9
    have ao := s_addOnce (d := d) (h := h) (r := r) (x := x) (W := W) (k := (cS c : Int) + z + D) (l := min (cL c) (W.1.2.2.2.2.2.1 - cS c)) k0 hc (by omega) (by omega) (by omega)
    have e2 : min (cL c : Int) ((W.1.2.2.2.2.2.1 : Int) - cS c) = ((min (cL c) (W.1.2.2.2.2.2.1 - cS c) : Nat) : Int) := by omega
    have m1 := s_min (d := d + 2) (h := dkW h x (W.1, W.2.1, W.2.2.1, ((evL c W.1.2.2.2.2.1 W.1.2.2.2.2.2.1 D j e).1, (evL c W.1.2.2.2.2.1 W.1.2.2.2.2.2.1 D j e).2, W.2.2.2.1.2.2), W.2.2.2.2)) (r := r) (a := (cL c : Int)) (b := (W.1.2.2.2.2.2.1 : Int) - cS c) (by omega) (by omega) (by omega) (by omega)
    rw [e2] at m1
    rw [r156_91]
    simp (disch := omega) only [r156_0, r156_1, r156_4, r156_6, r156_7, r156_10, r156_12, r156_13, r156_16, r156_17, r156_20, r156_21, r156_23, r156_24, r156_27, r156_30, r156_32, r156_33, r156_36, r156_39, r156_40, r156_41, r156_43, r156_45, r156_46, r156_48, r156_51, r156_54, r156_56, r156_57, r156_60, r156_63, r156_64, r156_65, r156_67, r156_68, r156_71, r156_72, r156_73, r156_75, r156_76, r156_77, r156_79, r156_80, r156_82, r156_85, r156_88, r156_89, r156_93, r156_94, r156_97, r156_100, r156_101, r156_102, r156_104, r156_106, r156_108, r156_109, r156_110, r156_112, r156_113, r156_115, r156_116, r156_119, r156_121, r156_122, r156_125, r156_128, r156_131, r156_134, dk_18, dk_r, iI_le, c1, iI_mul, hz, iI_add, iI_sub, m1, ao, e1, h9, kl_n, kl_i, kl_r, kl_z, kl_l, kl_d, catS_0, catS_c, cat_i, cat_l, cat_d, cat_r, cat_n, kC_r, kC_x, Option.bind_some, Option.toList_some, Option.toList_none, List.cons_append, List.nil_append, gB0, gB1, gB2, gB3, gB4, rvB, nI_iI, i0, i1, l0_, wr_s, aup_s, and_true, true_and, and_self, eq_self, if_true, if_false, Nat.zero_le, Nat.reduceAdd, Nat.reduceLeDiff, gN_I, gN_L, gN_P, bI_0, bI_ok, z0, z1, Bool.true_eq, Bool.false_eq_true, not_true_eq_false, not_false_eq_true]
theorem s_addNote {c : Nat} {D : Int} (hS : sgOk W.1) (he : evOk e) (hc : cOk c) (hD : -48 ≤ D ∧ D ≤ 48) : aE (d + 4) 156 [.ref (x + 401), .long (lI c), .ref (x + 1 + 17), .int (iI D)] (dkW h x (W.1, W.2.1, W.2.2.1, ((e).1, (e).2, W.2.2.2.1.2.2), W.2.2.2.2), r) =
    some (.inl none, (dkW h x (W.1, W.2.1, W.2.2.1, ((evN c W.1.2.2.2.2 D e).1, (evN c W.1.2.2.2.2 D e).2, W.2.2.2.1.2.2), W.2.2.2.2), r)) := by
  have hl := sgOk_lp hS
  have a1 := cS_lt c
  have a2 := cL_lt c
  by_cases q0 : W.1.2.2.2.2.2.2 = 0
  · have q1 : (W.1.2.2.2.2.2.2 : Int) = 0 := by omega
    have e4 : evN c W.1.2.2.2.2 D e = evO c ((cS c : Int) + D) (cL c) e := if_pos (Or.inl q0)
    have ao := s_addOnce (d := d) (h := h) (r := r) (x := x) (W := W) (k := (cS c : Int) + D) (l := cL c) he hc (by omega) (by omega) (by omega)
    rw [e4]
    simp (disch := omega) only [e156, r156_0, r156_1, r156_4, r156_6, r156_7, r156_10, r156_12, r156_13, r156_16, r156_17, r156_20, r156_21, r156_23, r156_24, r156_27, r156_30, r156_32, r156_33, r156_36, r156_39, r156_40, r156_41, r156_43, r156_45, r156_46, r156_48, r156_51, r156_54, r156_56, r156_57, r156_60, r156_63, r156_64, r156_65, r156_67, r156_68, r156_71, r156_72, r156_73, r156_75, r156_76, r156_77, r156_79, r156_80, r156_82, r156_85, r156_88, r156_89, r156_93, r156_94, r156_97, r156_100, r156_101, r156_102, r156_104, r156_106, r156_108, r156_109, r156_110, r156_112, r156_113, r156_115, r156_116, r156_119, r156_121, r156_122, r156_125, r156_128, r156_131, r156_134, s_start hc, s_length hc, dk_18, dk_r, iI_sub, iI_eq, q1, iI_add, ao, kl_n, kl_i, kl_r, kl_z, kl_l, kl_d, catS_0, catS_c, cat_i, cat_l, cat_d, cat_r, cat_n, kC_r, kC_x, Option.bind_some, Option.toList_some, Option.toList_none, List.cons_append, List.nil_append, gB0, gB1, gB2, gB3, gB4, rvB, nI_iI, i0, i1, l0_, wr_s, aup_s, and_true, true_and, and_self, eq_self, if_true, if_false, Nat.zero_le, Nat.reduceAdd, Nat.reduceLeDiff, gN_I, gN_L, gN_P, bI_0, bI_ok, z0, z1, Bool.true_eq, Bool.false_eq_true, not_true_eq_false, not_false_eq_true]
  · have q1 : ¬ (W.1.2.2.2.2.2.2 : Int) = 0 := by omega
    by_cases q2 : cS c < W.1.2.2.2.2.1
    · have q3 : ¬ (W.1.2.2.2.2.1 : Int) ≤ cS c := by omega
      have e4 : evN c W.1.2.2.2.2 D e = evO c ((cS c : Int) + D) (cL c) e := if_pos (Or.inr q2)
      have ao := s_addOnce (d := d) (h := h) (r := r) (x := x) (W := W) (k := (cS c : Int) + D) (l := cL c) he hc (by omega) (by omega) (by omega)
      rw [e4]
      simp (disch := omega) only [e156, r156_0, r156_1, r156_4, r156_6, r156_7, r156_10, r156_12, r156_13, r156_16, r156_17, r156_20, r156_21, r156_23, r156_24, r156_27, r156_30, r156_32, r156_33, r156_36, r156_39, r156_40, r156_41, r156_43, r156_45, r156_46, r156_48, r156_51, r156_54, r156_56, r156_57, r156_60, r156_63, r156_64, r156_65, r156_67, r156_68, r156_71, r156_72, r156_73, r156_75, r156_76, r156_77, r156_79, r156_80, r156_82, r156_85, r156_88, r156_89, r156_93, r156_94, r156_97, r156_100, r156_101, r156_102, r156_104, r156_106, r156_108, r156_109, r156_110, r156_112, r156_113, r156_115, r156_116, r156_119, r156_121, r156_122, r156_125, r156_128, r156_131, r156_134, s_start hc, s_length hc, dk_18, dk_r, iI_sub, iI_eq, iI_le, q1, q3, iI_add, ao, kl_n, kl_i, kl_r, kl_z, kl_l, kl_d, catS_0, catS_c, cat_i, cat_l, cat_d, cat_r, cat_n, kC_r, kC_x, Option.bind_some, Option.toList_some, Option.toList_none, List.cons_append, List.nil_append, gB0, gB1, gB2, gB3, gB4, rvB, nI_iI, i0, i1, l0_, wr_s, aup_s, and_true, true_and, and_self, eq_self, if_true, if_false, Nat.zero_le, Nat.reduceAdd, Nat.reduceLeDiff, gN_I, gN_L, gN_P, bI_0, bI_ok, z0, z1, Bool.true_eq, Bool.false_eq_true, not_true_eq_false, not_false_eq_true]
    · have q3 : (W.1.2.2.2.2.1 : Int) ≤ cS c := by omega
      have n4 : ¬ (W.1.2.2.2.2.2.2 = 0 ∨ cS c < W.1.2.2.2.2.1) := by omega
      by_cases q4 : W.1.2.2.2.2.2.1 ≤ cS c
      · have q5 : ¬ (cS c : Int) < W.1.2.2.2.2.2.1 := by omega
        have e4 : evN c W.1.2.2.2.2 D e = evO c ((cS c : Int) + ((W.1.2.2.2.2.2.2 : Int) - 1) * ((W.1.2.2.2.2.2.1 : Int) - W.1.2.2.2.2.1) + D) (cL c) e := by
          unfold evN
          rw [if_neg n4, if_pos q4]
        have e5 : ((W.1.2.2.2.2.2.2 : Int) - 1) = ((W.1.2.2.2.2.2.2 - 1 : Nat) : Int) := by omega
        have b1 := rnd_b (show W.1.2.2.2.2.2.2 - 1 ≤ 8 by omega) hl.1 hl.2.1
        rw [← e5] at b1
        rw [e4]
        generalize hz : ((W.1.2.2.2.2.2.2 : Int) - 1) * ((W.1.2.2.2.2.2.1 : Int) - W.1.2.2.2.2.1) = z at b1
        have ao := s_addOnce (d := d) (h := h) (r := r) (x := x) (W := W) (k := (cS c : Int) + z + D) (l := cL c) he hc (by omega) (by omega) (by omega)
        simp (disch := omega) only [e156, r156_0, r156_1, r156_4, r156_6, r156_7, r156_10, r156_12, r156_13, r156_16, r156_17, r156_20, r156_21, r156_23, r156_24, r156_27, r156_30, r156_32, r156_33, r156_36, r156_39, r156_40, r156_41, r156_43, r156_45, r156_46, r156_48, r156_51, r156_54, r156_56, r156_57, r156_60, r156_63, r156_64, r156_65, r156_67, r156_68, r156_71, r156_72, r156_73, r156_75, r156_76, r156_77, r156_79, r156_80, r156_82, r156_85, r156_88, r156_89, r156_93, r156_94, r156_97, r156_100, r156_101, r156_102, r156_104, r156_106, r156_108, r156_109, r156_110, r156_112, r156_113, r156_115, r156_116, r156_119, r156_121, r156_122, r156_125, r156_128, r156_131, r156_134, s_start hc, s_length hc, dk_18, dk_r, iI_sub, iI_eq, iI_le, iI_lt, q1, q3, q5, iI_mul, hz, iI_add, ao, kl_n, kl_i, kl_r, kl_z, kl_l, kl_d, catS_0, catS_c, cat_i, cat_l, cat_d, cat_r, cat_n, kC_r, kC_x, Option.bind_some, Option.toList_some, Option.toList_none, List.cons_append, List.nil_append, gB0, gB1, gB2, gB3, gB4, rvB, nI_iI, i0, i1, l0_, wr_s, aup_s, and_true, true_and, and_self, eq_self, if_true, if_false, Nat.zero_le, Nat.reduceAdd, Nat.reduceLeDiff, gN_I, gN_L, gN_P, bI_0, bI_ok, z0, z1, Bool.true_eq, Bool.false_eq_true, not_true_eq_false, not_false_eq_true]
      · have q5 : (cS c : Int) < W.1.2.2.2.2.2.1 := by omega
        have e4 : evN c W.1.2.2.2.2 D e = evL c W.1.2.2.2.2.1 W.1.2.2.2.2.2.1 D W.1.2.2.2.2.2.2 e := by
          unfold evN
          rw [if_neg n4, if_neg q4]
        have lp := evl_loop (d := d) (h := h) (r := r) (x := x) hS he hc hD (by omega) W.1.2.2.2.2.2.2 0 (by omega)
        rw [show ((0 : Nat) : Int) = 0 from rfl, show evL c W.1.2.2.2.2.1 W.1.2.2.2.2.2.1 D 0 e = e from rfl] at lp
        rw [e4]
        simp (disch := omega) only [e156, r156_0, r156_1, r156_4, r156_6, r156_7, r156_10, r156_12, r156_13, r156_16, r156_17, r156_20, r156_21, r156_23, r156_24, r156_27, r156_30, r156_32, r156_33, r156_36, r156_39, r156_40, r156_41, r156_43, r156_45, r156_46, r156_48, r156_51, r156_54, r156_56, r156_57, r156_60, r156_63, r156_64, r156_65, r156_67, r156_68, r156_71, r156_72, r156_73, r156_75, r156_76, r156_77, r156_79, r156_80, r156_82, r156_85, r156_88, r156_89, r156_93, r156_94, r156_97, r156_100, r156_101, r156_102, r156_104, r156_106, r156_108, r156_109, r156_110, r156_112, r156_113, r156_115, r156_116, r156_119, r156_121, r156_122, r156_125, r156_128, r156_131, r156_134, s_start hc, s_length hc, dk_18, dk_r, iI_sub, iI_eq, iI_le, iI_lt, q1, q3, q5, lp, kl_n, kl_i, kl_r, kl_z, kl_l, kl_d, catS_0, catS_c, cat_i, cat_l, cat_d, cat_r, cat_n, kC_r, kC_x, Option.bind_some, Option.toList_some, Option.toList_none, List.cons_append, List.nil_append, gB0, gB1, gB2, gB3, gB4, rvB, nI_iI, i0, i1, l0_, wr_s, aup_s, and_true, true_and, and_self, eq_self, if_true, if_false, Nat.zero_le, Nat.reduceAdd, Nat.reduceLeDiff, gN_I, gN_L, gN_P, bI_0, bI_ok, z0, z1, Bool.true_eq, Bool.false_eq_true, not_true_eq_false, not_false_eq_true]
theorem dk_4 : dkW h x W (x + 1 + 3) = some (aB 8 [.ref (x + 1 + 3 + 1), .ref (x + 1 + 3 + 2), .ref (x + 1 + 3 + 3)]) := dk_tsI.1
theorem tr_loop {t : Nat} (hS : sgOk W.1) (he : evOk e) (ht : t < 6) : ∀ m k : Nat, k + m = W.1.1.1 → ∀ l4 l6 : Option Value, ∀ l5 : Option Value, l5 = none →
    L (d + 4) 157 2 [some (.ref (x + 401)), some (.ref (x + 1)), some (.int (iI t)), some (.int (iI k)), l4, l5, l6] [] (dkW h x (W.1, W.2.1, W.2.2.1, ((evT W.1.1.2 t (W.1.2.1.2.1 t) (W.1.2.1.2.2 t) W.1.2.2.2.2 k e).1, (evT W.1.1.2 t (W.1.2.1.2.1 t) (W.1.2.1.2.2 t) W.1.2.2.2.2 k e).2, W.2.2.2.1.2.2), W.2.2.2.2), r) =
    some (.inl none, (dkW h x (W.1, W.2.1, W.2.2.1, ((evT W.1.1.2 t (W.1.2.1.2.1 t) (W.1.2.1.2.2 t) W.1.2.2.2.2 W.1.1.1 e).1, (evT W.1.1.2 t (W.1.2.1.2.1 t) (W.1.2.1.2.2 t) W.1.2.2.2.2 W.1.1.1 e).2, W.2.2.2.1.2.2), W.2.2.2.2), r)) := by
  have hn := hS.1
  have hl := sgOk_lp hS
  have hs := hS.2.2.2.1 t
  have hD := hS.2.2.2.2.1 t
  intro m
  induction m with
  | zero =>
    intro k hk l4 l6 l5 h5
    obtain rfl : k = W.1.1.1 := by omega
    have c1 : (W.1.1.1 : Int) ≤ W.1.1.1 := by omega
    rw [r157_2]
    simp (disch := omega) only [r157_0, r157_1, r157_3, r157_4, r157_7, r157_10, r157_13, r157_14, r157_17, r157_18, r157_21, r157_23, r157_25, r157_28, r157_29, r157_32, r157_33, r157_36, r157_37, r157_39, r157_41, r157_44, r157_45, r157_48, r157_50, r157_51, r157_53, r157_56, r157_59, r157_60, r157_62, r157_64, r157_67, r157_68, r157_71, r157_72, r157_75, r157_76, r157_79, r157_82, r157_85, r157_88, dk_1, dk_2, dk_4, k_size, iI_le, c1, kl_n, kl_i, kl_r, kl_z, kl_l, kl_d, catS_0, catS_c, cat_i, cat_l, cat_d, cat_r, cat_n, kC_r, kC_x, Option.bind_some, Option.toList_some, Option.toList_none, List.cons_append, List.nil_append, gB0, gB1, gB2, gB3, gB4, rvB, nI_iI, i0, i1, l0_, wr_s, aup_s, and_true, true_and, and_self, eq_self, if_true, if_false, Nat.zero_le, Nat.reduceAdd, Nat.reduceLeDiff, gN_I, gN_L, gN_P, bI_0, bI_ok, z0, z1, Bool.true_eq, Bool.false_eq_true, not_true_eq_false, not_false_eq_true]
  | succ m ih =>
    intro k hk l4 l6 l5 h5
    subst h5
    have c1 : ¬ (W.1.1.1 : Int) ≤ k := by omega
    have e1 : (k : Int) + 1 = ((k + 1 : Nat) : Int) := by omega
    have hc := hS.2.1 k
    have a1 := cP_lt (W.1.1.2 k)
    have a0 := cT_lt hc
    have k0 := evT_ok (t := t) (s := W.1.2.1.2.1 t) (D := W.1.2.1.2.2 t) he hS.2.1 hl.1 hl.2.1 hl.2.2 hD.2 k
    have h9 := fun l4 l6 => ih (k + 1) (by omega) l4 l6 none rfl
    have sh := s_shiftOf (d := d + 2) (r := r) (dk_tsI (h := h) (x := x) (W := (W.1, W.2.1, W.2.2.1, ((evT W.1.1.2 t (W.1.2.1.2.1 t) (W.1.2.1.2.2 t) W.1.2.2.2.2 k e).1, (evT W.1.1.2 t (W.1.2.1.2.1 t) (W.1.2.1.2.2 t) W.1.2.2.2.2 k e).2, W.2.2.2.1.2.2), W.2.2.2.2))) ht
    have de := s_delayOf (d := d + 2) (r := r) (dk_tsI (h := h) (x := x) (W := (W.1, W.2.1, W.2.2.1, ((evT W.1.1.2 t (W.1.2.1.2.1 t) (W.1.2.1.2.2 t) W.1.2.2.2.2 k e).1, (evT W.1.1.2 t (W.1.2.1.2.1 t) (W.1.2.1.2.2 t) W.1.2.2.2.2 k e).2, W.2.2.2.1.2.2), W.2.2.2.2))) ht
    rw [r157_2]
    by_cases q : cT (W.1.1.2 k) = t
    · have q1 : (cT (W.1.1.2 k) : Int) = t := by omega
      by_cases q2 : 0 ≤ (cP (W.1.1.2 k) : Int) + W.1.2.1.2.1 t ∧ (cP (W.1.1.2 k) : Int) + W.1.2.1.2.1 t ≤ 127
      · have e4 : evT W.1.1.2 t (W.1.2.1.2.1 t) (W.1.2.1.2.2 t) W.1.2.2.2.2 (k + 1) e = evN (wpC (W.1.1.2 k) ((cP (W.1.1.2 k) : Int) + W.1.2.1.2.1 t).toNat) W.1.2.2.2.2 (W.1.2.1.2.2 t) (evT W.1.1.2 t (W.1.2.1.2.1 t) (W.1.2.1.2.2 t) W.1.2.2.2.2 k e) := if_pos ⟨q, q2⟩
        rw [e4] at h9
        have e2 : (cP (W.1.1.2 k) : Int) + W.1.2.1.2.1 t = ((((cP (W.1.1.2 k) : Int) + W.1.2.1.2.1 t).toNat : Nat) : Int) := by omega
        have p1 : ((cP (W.1.1.2 k) : Int) + W.1.2.1.2.1 t).toNat < 128 := by omega
        have q3 : 0 ≤ ((((cP (W.1.1.2 k) : Int) + W.1.2.1.2.1 t).toNat : Nat) : Int) ∧ ((((cP (W.1.1.2 k) : Int) + W.1.2.1.2.1 t).toNat : Nat) : Int) ≤ 127 := by omega
        have an := s_addNote (d := d) (h := h) (r := r) (x := x) (W := W) hS k0 (wpC_ok hc p1) hD
        have e5 : cO (cT (W.1.1.2 k)) (cS (W.1.1.2 k)) ((cP (W.1.1.2 k) : Int) + W.1.2.1.2.1 t).toNat (cL (W.1.1.2 k)) (cF (W.1.1.2 k)) = wpC (W.1.1.2 k) ((cP (W.1.1.2 k) : Int) + W.1.2.1.2.1 t).toNat := rfl
        generalize ((cP (W.1.1.2 k) : Int) + W.1.2.1.2.1 t).toNat = pp at e2 p1 q3 an e5 h9
        simp (disch := omega) only [r157_0, r157_1, r157_3, r157_4, r157_7, r157_10, r157_13, r157_14, r157_17, r157_18, r157_21, r157_23, r157_25, r157_28, r157_29, r157_32, r157_33, r157_36, r157_37, r157_39, r157_41, r157_44, r157_45, r157_48, r157_50, r157_51, r157_53, r157_56, r157_59, r157_60, r157_62, r157_64, r157_67, r157_68, r157_71, r157_72, r157_75, r157_76, r157_79, r157_82, r157_85, r157_88, dk_1, dk_2, dk_4, dk_r, k_size, iI_le, c1, k_codeAt, s_pitch hc, sh, de, iI_add, e2, s_track hc, iI_eq, q1, s_isWithin, q3, s_withPitch hc p1, e5, an, e1, h9, kl_n, kl_i, kl_r, kl_z, kl_l, kl_d, catS_0, catS_c, cat_i, cat_l, cat_d, cat_r, cat_n, kC_r, kC_x, Option.bind_some, Option.toList_some, Option.toList_none, List.cons_append, List.nil_append, gB0, gB1, gB2, gB3, gB4, rvB, nI_iI, i0, i1, l0_, wr_s, aup_s, and_true, true_and, and_self, eq_self, if_true, if_false, Nat.zero_le, Nat.reduceAdd, Nat.reduceLeDiff, gN_I, gN_L, gN_P, bI_0, bI_ok, z0, z1, Bool.true_eq, Bool.false_eq_true, not_true_eq_false, not_false_eq_true]
      · have e4 : evT W.1.1.2 t (W.1.2.1.2.1 t) (W.1.2.1.2.2 t) W.1.2.2.2.2 (k + 1) e = evT W.1.1.2 t (W.1.2.1.2.1 t) (W.1.2.1.2.2 t) W.1.2.2.2.2 k e := if_neg (fun z => q2 z.2)
        rw [e4] at h9
        simp (disch := omega) only [r157_0, r157_1, r157_3, r157_4, r157_7, r157_10, r157_13, r157_14, r157_17, r157_18, r157_21, r157_23, r157_25, r157_28, r157_29, r157_32, r157_33, r157_36, r157_37, r157_39, r157_41, r157_44, r157_45, r157_48, r157_50, r157_51, r157_53, r157_56, r157_59, r157_60, r157_62, r157_64, r157_67, r157_68, r157_71, r157_72, r157_75, r157_76, r157_79, r157_82, r157_85, r157_88, dk_1, dk_2, dk_4, dk_r, k_size, iI_le, c1, k_codeAt, s_pitch hc, sh, de, iI_add, s_track hc, iI_eq, q1, s_isWithin, q2, e1, h9, kl_n, kl_i, kl_r, kl_z, kl_l, kl_d, catS_0, catS_c, cat_i, cat_l, cat_d, cat_r, cat_n, kC_r, kC_x, Option.bind_some, Option.toList_some, Option.toList_none, List.cons_append, List.nil_append, gB0, gB1, gB2, gB3, gB4, rvB, nI_iI, i0, i1, l0_, wr_s, aup_s, and_true, true_and, and_self, eq_self, if_true, if_false, Nat.zero_le, Nat.reduceAdd, Nat.reduceLeDiff, gN_I, gN_L, gN_P, bI_0, bI_ok, z0, z1, Bool.true_eq, Bool.false_eq_true, not_true_eq_false, not_false_eq_true]
    · have q1 : ¬ (cT (W.1.1.2 k) : Int) = t := by omega
      have e4 : evT W.1.1.2 t (W.1.2.1.2.1 t) (W.1.2.1.2.2 t) W.1.2.2.2.2 (k + 1) e = evT W.1.1.2 t (W.1.2.1.2.1 t) (W.1.2.1.2.2 t) W.1.2.2.2.2 k e := if_neg (fun z => q z.1)
      rw [e4] at h9
      simp (disch := omega) only [r157_0, r157_1, r157_3, r157_4, r157_7, r157_10, r157_13, r157_14, r157_17, r157_18, r157_21, r157_23, r157_25, r157_28, r157_29, r157_32, r157_33, r157_36, r157_37, r157_39, r157_41, r157_44, r157_45, r157_48, r157_50, r157_51, r157_53, r157_56, r157_59, r157_60, r157_62, r157_64, r157_67, r157_68, r157_71, r157_72, r157_75, r157_76, r157_79, r157_82, r157_85, r157_88, dk_1, dk_2, dk_4, dk_r, k_size, iI_le, c1, k_codeAt, s_pitch hc, sh, de, iI_add, s_track hc, iI_eq, q1, e1, h9, kl_n, kl_i, kl_r, kl_z, kl_l, kl_d, catS_0, catS_c, cat_i, cat_l, cat_d, cat_r, cat_n, kC_r, kC_x, Option.bind_some, Option.toList_some, Option.toList_none, List.cons_append, List.nil_append, gB0, gB1, gB2, gB3, gB4, rvB, nI_iI, i0, i1, l0_, wr_s, aup_s, and_true, true_and, and_self, eq_self, if_true, if_false, Nat.zero_le, Nat.reduceAdd, Nat.reduceLeDiff, gN_I, gN_L, gN_P, bI_0, bI_ok, z0, z1, Bool.true_eq, Bool.false_eq_true, not_true_eq_false, not_false_eq_true]
theorem s_addTrack {t : Nat} (hS : sgOk W.1) (he : evOk e) (ht : t < 6) : aE (d + 5) 157 [.ref (x + 401), .ref (x + 1), .int (iI t)] (dkW h x (W.1, W.2.1, W.2.2.1, ((e).1, (e).2, W.2.2.2.1.2.2), W.2.2.2.2), r) =
    some (.inl none, (dkW h x (W.1, W.2.1, W.2.2.1, ((evT W.1.1.2 t (W.1.2.1.2.1 t) (W.1.2.1.2.2 t) W.1.2.2.2.2 W.1.1.1 e).1, (evT W.1.1.2 t (W.1.2.1.2.1 t) (W.1.2.1.2.2 t) W.1.2.2.2.2 W.1.1.1 e).2, W.2.2.2.1.2.2), W.2.2.2.2), r)) := by
  have hl := tr_loop (d := d) (h := h) (r := r) (x := x) hS he ht W.1.1.1 0 (by omega) none none none rfl
  rw [show ((0 : Nat) : Int) = 0 from rfl, show evT W.1.1.2 t (W.1.2.1.2.1 t) (W.1.2.1.2.2 t) W.1.2.2.2.2 0 e = e from rfl] at hl
  simp (disch := omega) only [e157, r157_0, r157_1, r157_3, r157_4, r157_7, r157_10, r157_13, r157_14, r157_17, r157_18, r157_21, r157_23, r157_25, r157_28, r157_29, r157_32, r157_33, r157_36, r157_37, r157_39, r157_41, r157_44, r157_45, r157_48, r157_50, r157_51, r157_53, r157_56, r157_59, r157_60, r157_62, r157_64, r157_67, r157_68, r157_71, r157_72, r157_75, r157_76, r157_79, r157_82, r157_85, r157_88, hl, kl_n, kl_i, kl_r, kl_z, kl_l, kl_d, catS_0, catS_c, cat_i, cat_l, cat_d, cat_r, cat_n, kC_r, kC_x, Option.bind_some, Option.toList_some, Option.toList_none, List.cons_append, List.nil_append, gB0, gB1, gB2, gB3, gB4, rvB, nI_iI, i0, i1, l0_, wr_s, aup_s, and_true, true_and, and_self, eq_self, if_true, if_false, Nat.zero_le, Nat.reduceAdd, Nat.reduceLeDiff, gN_I, gN_L, gN_P, bI_0, bI_ok, z0, z1, Bool.true_eq, Bool.false_eq_true, not_true_eq_false, not_false_eq_true]
theorem pl_loop (hS : sgOk W.1) (he : evOk e) : ∀ m t : Nat, t + m = 6 → L (d + 5) 158 7 [some (.ref (x + 401)), some (.ref (x + 1)), some (.int (iI t))] [] (dkW h x (W.1, W.2.1, W.2.2.1, ((evP W.1 t e).1, (evP W.1 t e).2, W.2.2.2.1.2.2), W.2.2.2.2), r) =
    some (.inl none, (dkW h x (W.1, W.2.1, W.2.2.1, ((evP W.1 6 e).1, (evP W.1 6 e).2, W.2.2.2.1.2.2), W.2.2.2.2), r)) := by
  intro m
  induction m with
  | zero =>
    intro t ht
    obtain rfl : t = 6 := by omega
    have c1 : (6 : Int) ≤ ((6 : Nat) : Int) := by omega
    rw [r158_7]
    simp (disch := omega) only [r158_0, r158_1, r158_2, r158_5, r158_6, r158_8, r158_10, r158_13, r158_14, r158_17, r158_18, r158_21, r158_24, r158_25, r158_26, r158_27, r158_30, r158_33, r158_36, iI_le, c1, kl_n, kl_i, kl_r, kl_z, kl_l, kl_d, catS_0, catS_c, cat_i, cat_l, cat_d, cat_r, cat_n, kC_r, kC_x, Option.bind_some, Option.toList_some, Option.toList_none, List.cons_append, List.nil_append, gB0, gB1, gB2, gB3, gB4, rvB, nI_iI, i0, i1, l0_, wr_s, aup_s, and_true, true_and, and_self, eq_self, if_true, if_false, Nat.zero_le, Nat.reduceAdd, Nat.reduceLeDiff, gN_I, gN_L, gN_P, bI_0, bI_ok, z0, z1, Bool.true_eq, Bool.false_eq_true, not_true_eq_false, not_false_eq_true]
  | succ m ih =>
    intro t ht
    have c1 : ¬ (6 : Int) ≤ (t : Int) := by omega
    have e1 : (t : Int) + 1 = ((t + 1 : Nat) : Int) := by omega
    have h9 := ih (t + 1) (by omega)
    have k0 := evP_ok he hS t
    have hh := s_isHeard (d := d + 1) (r := r) (dk_tsI (h := h) (x := x) (W := (W.1, W.2.1, W.2.2.1, ((evP W.1 t e).1, (evP W.1 t e).2, W.2.2.2.1.2.2), W.2.2.2.2))) hS.2.2.1 (show t < 6 by omega)
    rw [r158_7]
    by_cases q : hrd W.1.2.1.1 t
    · have qT := eq_true q
      have e4 : evP W.1 (t + 1) e = evT W.1.1.2 t (W.1.2.1.2.1 t) (W.1.2.1.2.2 t) W.1.2.2.2.2 W.1.1.1 (evP W.1 t e) := if_pos q
      have at' := s_addTrack (d := d) (h := h) (r := r) (x := x) (W := W) (t := t) hS k0 (by omega)
      rw [e4] at h9
      simp (disch := omega) only [r158_0, r158_1, r158_2, r158_5, r158_6, r158_8, r158_10, r158_13, r158_14, r158_17, r158_18, r158_21, r158_24, r158_25, r158_26, r158_27, r158_30, r158_33, r158_36, dk_1, dk_4, dk_r, iI_le, c1, hh, qT, at', iI_add, e1, h9, kl_n, kl_i, kl_r, kl_z, kl_l, kl_d, catS_0, catS_c, cat_i, cat_l, cat_d, cat_r, cat_n, kC_r, kC_x, Option.bind_some, Option.toList_some, Option.toList_none, List.cons_append, List.nil_append, gB0, gB1, gB2, gB3, gB4, rvB, nI_iI, i0, i1, l0_, wr_s, aup_s, and_true, true_and, and_self, eq_self, if_true, if_false, Nat.zero_le, Nat.reduceAdd, Nat.reduceLeDiff, gN_I, gN_L, gN_P, bI_0, bI_ok, z0, z1, Bool.true_eq, Bool.false_eq_true, not_true_eq_false, not_false_eq_true]
    · have qT := eq_false q
      have e4 : evP W.1 (t + 1) e = evP W.1 t e := if_neg q
      rw [e4] at h9
      simp (disch := omega) only [r158_0, r158_1, r158_2, r158_5, r158_6, r158_8, r158_10, r158_13, r158_14, r158_17, r158_18, r158_21, r158_24, r158_25, r158_26, r158_27, r158_30, r158_33, r158_36, dk_1, dk_4, dk_r, iI_le, c1, hh, qT, iI_add, e1, h9, kl_n, kl_i, kl_r, kl_z, kl_l, kl_d, catS_0, catS_c, cat_i, cat_l, cat_d, cat_r, cat_n, kC_r, kC_x, Option.bind_some, Option.toList_some, Option.toList_none, List.cons_append, List.nil_append, gB0, gB1, gB2, gB3, gB4, rvB, nI_iI, i0, i1, l0_, wr_s, aup_s, and_true, true_and, and_self, eq_self, if_true, if_false, Nat.zero_le, Nat.reduceAdd, Nat.reduceLeDiff, gN_I, gN_L, gN_P, bI_0, bI_ok, z0, z1, Bool.true_eq, Bool.false_eq_true, not_true_eq_false, not_false_eq_true]
theorem dk_r0 : aup (dkW h x W) (x + 401) (aB 5 [.ref (x + 401 + 1), .ref (x + 401 + 2), .int (iI 0)]) = dkW h x (W.1, W.2.1, W.2.2.1, (0, W.2.2.2.1.2.1, W.2.2.2.1.2.2), W.2.2.2.2) := dk_rn 0
/-- what is played now -/
def plE (W : Dk) : EV := evP W.1 6 (0, W.2.2.2.1.2.1)
def plW (W : Dk) : Dk := (W.1, W.2.1, W.2.2.1, ((plE W).1, (plE W).2, W.2.2.2.1.2.2), W.2.2.2.2)
def ptE (W : Dk) (t : Nat) : EV := evT W.1.1.2 t (W.1.2.1.2.1 t) (W.1.2.1.2.2 t) W.1.2.2.2.2 W.1.1.1 (0, W.2.2.2.1.2.1)
def ptW (W : Dk) (t : Nat) : Dk := (W.1, W.2.1, W.2.2.1, ((ptE W t).1, (ptE W t).2, W.2.2.2.1.2.2), W.2.2.2.2)
abbrev rnOk (W : Dk) : Prop := ∀ i, vOk (W.2.2.2.1.2.1 i)
theorem plE_ok (hS : sgOk W.1) (hR : rnOk W) : evOk (plE W) := evP_ok ⟨by show 0 ≤ 960; omega, hR⟩ hS 6
theorem ptE_ok {t : Nat} (hS : sgOk W.1) (hR : rnOk W) : evOk (ptE W t) := by
  have hl := sgOk_lp hS
  exact evT_ok ⟨by show 0 ≤ 960; omega, hR⟩ hS.2.1 hl.1 hl.2.1 hl.2.2 (hS.2.2.2.2.1 t).2 _
theorem s_play (hS : sgOk W.1) (hR : rnOk W) : aE (d + 6) 158 [.ref (x + 401), .ref (x + 1)] (dkW h x W, r) = some (.inl none, (dkW h x (plW W), r)) := by
  have hl := pl_loop (d := d) (h := h) (r := r) (x := x) (W := W) (e := (0, W.2.2.2.1.2.1)) hS ⟨by show 0 ≤ 960; omega, hR⟩ 6 0 (by omega)
  rw [show ((0 : Nat) : Int) = 0 from rfl] at hl
  change L (d + 5) 158 7 _ [] (dkW h x (W.1, W.2.1, W.2.2.1, (0, W.2.2.2.1.2.1, W.2.2.2.1.2.2), W.2.2.2.2), r) = some (.inl none, (dkW h x (plW W), r)) at hl
  simp (disch := omega) only [e158, r158_0, r158_1, r158_2, r158_5, r158_6, r158_8, r158_10, r158_13, r158_14, r158_17, r158_18, r158_21, r158_24, r158_25, r158_26, r158_27, r158_30, r158_33, r158_36, dk_r, sB2i, dk_r0, hl, kl_n, kl_i, kl_r, kl_z, kl_l, kl_d, catS_0, catS_c, cat_i, cat_l, cat_d, cat_r, cat_n, kC_r, kC_x, Option.bind_some, Option.toList_some, Option.toList_none, List.cons_append, List.nil_append, gB0, gB1, gB2, gB3, gB4, rvB, nI_iI, i0, i1, l0_, wr_s, aup_s, and_true, true_and, and_self, eq_self, if_true, if_false, Nat.zero_le, Nat.reduceAdd, Nat.reduceLeDiff, gN_I, gN_L, gN_P, bI_0, bI_ok, z0, z1, Bool.true_eq, Bool.false_eq_true, not_true_eq_false, not_false_eq_true]
theorem s_playTrack {t : Nat} (hS : sgOk W.1) (hR : rnOk W) (ht : t < 6) : aE (d + 6) 159 [.ref (x + 401), .ref (x + 1), .int (iI t)] (dkW h x W, r) = some (.inl none, (dkW h x (ptW W t), r)) := by
  have hl := s_addTrack (d := d) (h := h) (r := r) (x := x) (W := W) (e := (0, W.2.2.2.1.2.1)) hS ⟨by show 0 ≤ 960; omega, hR⟩ ht
  change aE (d + 5) 157 _ (dkW h x (W.1, W.2.1, W.2.2.1, (0, W.2.2.2.1.2.1, W.2.2.2.1.2.2), W.2.2.2.2), r) = some (.inl none, (dkW h x (ptW W t), r)) at hl
  simp (disch := omega) only [e159, r159_0, r159_1, r159_2, r159_5, r159_6, r159_7, r159_8, r159_11, dk_r, sB2i, dk_r0, hl, kl_n, kl_i, kl_r, kl_z, kl_l, kl_d, catS_0, catS_c, cat_i, cat_l, cat_d, cat_r, cat_n, kC_r, kC_x, Option.bind_some, Option.toList_some, Option.toList_none, List.cons_append, List.nil_append, gB0, gB1, gB2, gB3, gB4, rvB, nI_iI, i0, i1, l0_, wr_s, aup_s, and_true, true_and, and_self, eq_self, if_true, if_false, Nat.zero_le, Nat.reduceAdd, Nat.reduceLeDiff, gN_I, gN_L, gN_P, bI_0, bI_ok, z0, z1, Bool.true_eq, Bool.false_eq_true, not_true_eq_false, not_false_eq_true]
end
