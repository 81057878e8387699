/-! ===== the reference: how many would move ===== -/
/-- all notes begin within the song -/
abbrev ntOk (F : Nat → Nat) (m : Nat) : Prop := ∀ i, i < m → cS (F i) ≤ 9599
section
variable {d : Nat} {h : aHf} {r : Nat × Nat × Nat × Nat} {y : Nat} {M : Md} {m : Nat} {F : Nat → Nat} {X : Nat → Int32}
theorem mv_loop {t v u : Int} {s : Nat} (hA : M.2.1 = nB m F X) (hm : m ≤ 60) (hF : ∀ i, cOk (F i)) (hV : ntOk F m) (hr : rgOk t v u) (hs : 1 ≤ s ∧ s ≤ 384) : ∀ q i : Nat, i + q = m →
    L (d + 2) 253 6 [some (.ref y), some (.int (iI t)), some (.int (iI v)), some (.int (iI u)), some (.int (iI s)), some (.int (iI (ofN t v u F i s))), some (.int (iI i))] [] (mdW h y M, r) = some (.inl (some (.int (iI (ofN t v u F m s)))), (mdW h y M, r)) := by
  have g0 : gI (some (aI .int 385 (nB m F X))) (iI 0) = some (iI m) := gI_0 (by omega)
  intro q
  induction q with
  | zero =>
    intro i hi
    obtain rfl : i = m := by omega
    have c1 : (i : Int) ≤ i := by omega
    rw [r253_6]
    simp (disch := omega) only [r253_0, r253_1, r253_3, r253_4, r253_8, r253_9, r253_12, r253_13, r253_14, r253_17, r253_19, r253_20, r253_22, r253_23, r253_24, r253_25, r253_28, r253_31, r253_32, r253_34, r253_35, r253_38, r253_40, r253_41, r253_44, r253_45, r253_47, r253_48, r253_51, r253_54, r253_55, r253_58, r253_59, r253_60, r253_62, r253_65, r253_68, r253_70, md_0, md_1, hA, g0, iI_le, c1, kl_n, kl_i, kl_r, kl_z, kl_l, kl_d, catS_0, catS_c, cat_i, cat_l, cat_d, cat_r, cat_n, kC_r, kC_x, Option.bind_some, Option.toList_some, Option.toList_none, List.cons_append, List.nil_append, gB0, gB1, gB2, gB3, gB4, rvB, nI_iI, i0, i1, l0_, wr_s, aup_s, and_true, true_and, and_self, eq_self, if_true, if_false, Nat.zero_le, Nat.reduceAdd, Nat.reduceLeDiff, gN_I, gN_L, gN_P, bI_0, bI_ok, z0, z1, Bool.true_eq, Bool.false_eq_true, not_true_eq_false, not_false_eq_true]
  | succ q ih =>
    intro i hi
    have c1 : ¬ (m : Int) ≤ i := by omega
    have e1 : (i : Int) + 1 = ((i + 1 : Nat) : Int) := by omega
    have him : i < m := by omega
    have a1 := hV i him
    have b1 := nrI_t (s := s) (p := 0) a1
    have h9 := ih (i + 1) (by omega)
    have tg := r_target (d := d) (H := (mdW h y M, r)) (p := 0) a1 hs (by omega)
    rw [show ((0 : Nat) : Int) = 0 from rfl] at tg
    have z0 : ((ofN t v u F i s : Nat) : Int) + 0 = ((ofN t v u F i s : Nat) : Int) := Int.add_zero _
    rw [r253_6]
    by_cases q0 : cIn (F i) t v u
    · have qT := eq_true q0
      by_cases q5 : nrI (cS (F i)) s 0 = cS (F i)
      · have qf : ¬ qnM t v u s 0 100 (F i) = true := fun z => (of_decide_eq_true z).2 (by rw [dr_nr]; exact q5)
        have e3 : ofN t v u F i s = ofN t v u F (i + 1) s := (cntP_f qf).symm
        rw [← e3] at h9
        simp (disch := omega) only [r253_0, r253_1, r253_3, r253_4, r253_8, r253_9, r253_12, r253_13, r253_14, r253_17, r253_19, r253_20, r253_22, r253_23, r253_24, r253_25, r253_28, r253_31, r253_32, r253_34, r253_35, r253_38, r253_40, r253_41, r253_44, r253_45, r253_47, r253_48, r253_51, r253_54, r253_55, r253_58, r253_59, r253_60, r253_62, r253_65, r253_68, r253_70, md_0, md_1, hA, g0, iI_le, c1, r_isIn hA hm him hF hr, qT, r_1 hA hm him, tg, iI_eq, q5, iI_add, z0, e1, h9, kl_n, kl_i, kl_r, kl_z, kl_l, kl_d, catS_0, catS_c, cat_i, cat_l, cat_d, cat_r, cat_n, kC_r, kC_x, Option.bind_some, Option.toList_some, Option.toList_none, List.cons_append, List.nil_append, gB0, gB1, gB2, gB3, gB4, rvB, nI_iI, i0, i1, l0_, wr_s, aup_s, and_true, true_and, and_self, eq_self, if_true, if_false, Nat.zero_le, Nat.reduceAdd, Nat.reduceLeDiff, gN_I, gN_L, gN_P, bI_0, bI_ok, z0, z1, Bool.true_eq, Bool.false_eq_true, not_true_eq_false, not_false_eq_true]
      · have qf : qnM t v u s 0 100 (F i) = true := decide_eq_true ⟨q0, by rw [dr_nr]; exact q5⟩
        have e3 : (ofN t v u F i s : Int) + 1 = (ofN t v u F (i + 1) s : Int) := by
          have : ofN t v u F (i + 1) s = ofN t v u F i s + 1 := cntP_t qf
          omega
        simp (disch := omega) only [r253_0, r253_1, r253_3, r253_4, r253_8, r253_9, r253_12, r253_13, r253_14, r253_17, r253_19, r253_20, r253_22, r253_23, r253_24, r253_25, r253_28, r253_31, r253_32, r253_34, r253_35, r253_38, r253_40, r253_41, r253_44, r253_45, r253_47, r253_48, r253_51, r253_54, r253_55, r253_58, r253_59, r253_60, r253_62, r253_65, r253_68, r253_70, md_0, md_1, hA, g0, iI_le, c1, r_isIn hA hm him hF hr, qT, r_1 hA hm him, tg, iI_eq, q5, iI_add, e3, e1, h9, kl_n, kl_i, kl_r, kl_z, kl_l, kl_d, catS_0, catS_c, cat_i, cat_l, cat_d, cat_r, cat_n, kC_r, kC_x, Option.bind_some, Option.toList_some, Option.toList_none, List.cons_append, List.nil_append, gB0, gB1, gB2, gB3, gB4, rvB, nI_iI, i0, i1, l0_, wr_s, aup_s, and_true, true_and, and_self, eq_self, if_true, if_false, Nat.zero_le, Nat.reduceAdd, Nat.reduceLeDiff, gN_I, gN_L, gN_P, bI_0, bI_ok, z0, z1, Bool.true_eq, Bool.false_eq_true, not_true_eq_false, not_false_eq_true]
    · have qT := eq_false q0
      have qf : ¬ qnM t v u s 0 100 (F i) = true := fun z => q0 (of_decide_eq_true z).1
      have e3 : ofN t v u F i s = ofN t v u F (i + 1) s := (cntP_f qf).symm
      rw [← e3] at h9
      simp (disch := omega) only [r253_0, r253_1, r253_3, r253_4, r253_8, r253_9, r253_12, r253_13, r253_14, r253_17, r253_19, r253_20, r253_22, r253_23, r253_24, r253_25, r253_28, r253_31, r253_32, r253_34, r253_35, r253_38, r253_40, r253_41, r253_44, r253_45, r253_47, r253_48, r253_51, r253_54, r253_55, r253_58, r253_59, r253_60, r253_62, r253_65, r253_68, r253_70, md_0, md_1, hA, g0, iI_le, c1, r_isIn hA hm him hF hr, qT, iI_add, z0, e1, h9, kl_n, kl_i, kl_r, kl_z, kl_l, kl_d, catS_0, catS_c, cat_i, cat_l, cat_d, cat_r, cat_n, kC_r, kC_x, Option.bind_some, Option.toList_some, Option.toList_none, List.cons_append, List.nil_append, gB0, gB1, gB2, gB3, gB4, rvB, nI_iI, i0, i1, l0_, wr_s, aup_s, and_true, true_and, and_self, eq_self, if_true, if_false, Nat.zero_le, Nat.reduceAdd, Nat.reduceLeDiff, gN_I, gN_L, gN_P, bI_0, bI_ok, z0, z1, Bool.true_eq, Bool.false_eq_true, not_true_eq_false, not_false_eq_true]
theorem r_moving {t v u : Int} {s : Nat} (hA : M.2.1 = nB m F X) (hm : m ≤ 60) (hF : ∀ i, cOk (F i)) (hV : ntOk F m) (hr : rgOk t v u) (hs : 1 ≤ s ∧ s ≤ 384) : aE (d + 3) 253 [.ref y, .int (iI t), .int (iI v), .int (iI u), .int (iI s)] (mdW h y M, r) = some (.inl (some (.int (iI (ofN t v u F m s)))), (mdW h y M, r)) := by
  have hl := mv_loop (d := d) (h := h) (r := r) (y := y) hA hm hF hV hr hs m 0 (by omega)
  rw [show ((0 : Nat) : Int) = 0 from rfl, show ((ofN t v u F 0 s : Nat) : Int) = 0 from rfl] at hl
  simp only [e253, r253_0, r253_1, r253_3, r253_4, r253_8, r253_9, r253_12, r253_13, r253_14, r253_17, r253_19, r253_20, r253_22, r253_23, r253_24, r253_25, r253_28, r253_31, r253_32, r253_34, r253_35, r253_38, r253_40, r253_41, r253_44, r253_45, r253_47, r253_48, r253_51, r253_54, r253_55, r253_58, r253_59, r253_60, r253_62, r253_65, r253_68, r253_70, hl, kl_n, kl_i, kl_r, kl_z, kl_l, kl_d, catS_0, catS_c, cat_i, cat_l, cat_d, cat_r, cat_n, kC_r, kC_x, Option.bind_some, Option.toList_some, Option.toList_none, List.cons_append, List.nil_append, gB0, gB1, gB2, gB3, gB4, rvB, nI_iI, i0, i1, l0_, wr_s, aup_s, and_true, true_and, and_self, eq_self, if_true, if_false, Nat.zero_le, Nat.reduceAdd, Nat.reduceLeDiff, gN_I, gN_L, gN_P, bI_0, bI_ok, z0, z1, Bool.true_eq, Bool.false_eq_true, not_true_eq_false, not_false_eq_true]
theorem r_wouldMove {t v u : Int} {s : Nat} (hA : M.2.1 = nB m F X) (hm : m ≤ 60) (hF : ∀ i, cOk (F i)) (hV : ntOk F m) (hr : rgOk t v u) (hs : 1 ≤ s ∧ s ≤ 384) : aE (d + 4) 254 [.ref y, .int (iI t), .int (iI v), .int (iI u), .int (iI s)] (mdW h y M, r) = some (.inl (some (.int (iI (ofN t v u F m s)))), (mdW h y ((iI 0, M.1.2), M.2), r)) := by
  have hr2 : rgOk t v u := hr
  unfold rgOk at hr2
  have q1 := eq_true hr2
  have q2 : (1 : Int) ≤ s ∧ (s : Int) ≤ 384 := by omega
  have mv := r_moving (d := d) (h := h) (r := r) (y := y) (M := ((iI 0, M.1.2), M.2)) (X := X) hA hm hF hV hr hs
  simp (disch := omega) only [e254, r254_0, r254_1, r254_2, r254_5, r254_6, r254_7, r254_8, r254_11, r254_14, r254_16, r254_17, r254_20, r254_23, r254_26, r254_27, r254_28, r254_29, r254_30, r254_32, r254_35, r254_38, r254_39, r254_40, r254_43, md_0, sB0i, md_th, s_mRange, q1, s_mis, q2, mv, kl_n, kl_i, kl_r, kl_z, kl_l, kl_d, catS_0, catS_c, cat_i, cat_l, cat_d, cat_r, cat_n, kC_r, kC_x, Option.bind_some, Option.toList_some, Option.toList_none, List.cons_append, List.nil_append, gB0, gB1, gB2, gB3, gB4, rvB, nI_iI, i0, i1, l0_, wr_s, aup_s, and_true, true_and, and_self, eq_self, if_true, if_false, Nat.zero_le, Nat.reduceAdd, Nat.reduceLeDiff, gN_I, gN_L, gN_P, bI_0, bI_ok, z0, z1, Bool.true_eq, Bool.false_eq_true, not_true_eq_false, not_false_eq_true]
theorem r_wouldMove_1 {t v u s : Int} (b1 : -2147483648 ≤ t ∧ t < 2147483648) (b2 : -2147483648 ≤ v ∧ v < 2147483648) (b3 : -2147483648 ≤ u ∧ u < 2147483648) (b4 : -2147483648 ≤ s ∧ s < 2147483648) (hc : ¬ (rgOk t v u ∧ 1 ≤ s ∧ s ≤ 384)) :
    aE (d + 4) 254 [.ref y, .int (iI t), .int (iI v), .int (iI u), .int (iI s)] (mdW h y M, r) = some (.inl (some (.int (iI 0))), (mdW h y ((iI 1, M.1.2), M.2), r)) := by
  by_cases q : -1 ≤ t ∧ t ≤ 5 ∧ 0 ≤ v ∧ v < u ∧ u ≤ 9600
  · have qT := eq_true q
    have q2 : ¬ (1 ≤ s ∧ s ≤ 384) := fun z => hc ⟨q, z⟩
    simp (disch := omega) only [e254, r254_0, r254_1, r254_2, r254_5, r254_6, r254_7, r254_8, r254_11, r254_14, r254_16, r254_17, r254_20, r254_23, r254_26, r254_27, r254_28, r254_29, r254_30, r254_32, r254_35, r254_38, r254_39, r254_40, r254_43, md_0, sB0i, md_th, s_mRange, qT, s_mis, q2, r_refuse, kl_n, kl_i, kl_r, kl_z, kl_l, kl_d, catS_0, catS_c, cat_i, cat_l, cat_d, cat_r, cat_n, kC_r, kC_x, Option.bind_some, Option.toList_some, Option.toList_none, List.cons_append, List.nil_append, gB0, gB1, gB2, gB3, gB4, rvB, nI_iI, i0, i1, l0_, wr_s, aup_s, and_true, true_and, and_self, eq_self, if_true, if_false, Nat.zero_le, Nat.reduceAdd, Nat.reduceLeDiff, gN_I, gN_L, gN_P, bI_0, bI_ok, z0, z1, Bool.true_eq, Bool.false_eq_true, not_true_eq_false, not_false_eq_true]
  · have qT := eq_false q
    simp (disch := omega) only [e254, r254_0, r254_1, r254_2, r254_5, r254_6, r254_7, r254_8, r254_11, r254_14, r254_16, r254_17, r254_20, r254_23, r254_26, r254_27, r254_28, r254_29, r254_30, r254_32, r254_35, r254_38, r254_39, r254_40, r254_43, md_0, sB0i, md_th, s_mRange, qT, r_refuse, kl_n, kl_i, kl_r, kl_z, kl_l, kl_d, catS_0, catS_c, cat_i, cat_l, cat_d, cat_r, cat_n, kC_r, kC_x, Option.bind_some, Option.toList_some, Option.toList_none, List.cons_append, List.nil_append, gB0, gB1, gB2, gB3, gB4, rvB, nI_iI, i0, i1, l0_, wr_s, aup_s, and_true, true_and, and_self, eq_self, if_true, if_false, Nat.zero_le, Nat.reduceAdd, Nat.reduceLeDiff, gN_I, gN_L, gN_P, bI_0, bI_ok, z0, z1, Bool.true_eq, Bool.false_eq_true, not_true_eq_false, not_false_eq_true]
end
