/-! ===== the reference copies, pastes ===== -/
/-- the notes of a range, one after another -/
def slN (F : Nat → Nat) (t v u : Int) : Nat → NLv
  | 0 => (0, fun _ => 0)
  | k + 1 => if cIn (F k) t v u then ((slN F t v u k).1 + 1, upN (slN F t v u k).2 (slN F t v u k).1 (cbC v (F k))) else slN F t v u k
theorem slN_1 (F : Nat → Nat) (t v u : Int) : ∀ k, (slN F t v u k).1 = cntP (inB4 t v u) F k
  | 0 => rfl
  | k + 1 => by
    have ih := slN_1 F t v u k
    unfold slN
    by_cases q : cIn (F k) t v u
    · rw [if_pos q, cntP_t (decide_eq_true q)]
      show (slN F t v u k).1 + 1 = _
      rw [ih]
    · rw [if_neg q, cntP_f (fun z => q (of_decide_eq_true z)), ih]
/-- the reference's clipboard holds these notes -/
def clpOk (C : Nat → Int32) (e : NLv) : Prop := ∀ i j, i < e.1 → j < 5 → C (5 * i + j) = iI (cFact (e.2 i) j)
/-- its clips and clipboard told anew -/
def cpM (M : Md) (c : Int32) (C : Nat → Int32) : Md := ((M.1.1, M.1.2.1, M.1.2.2.1, M.1.2.2.2.1, c, M.1.2.2.2.2.2.1, M.1.2.2.2.2.2.2), M.2.1, M.2.2.1, M.2.2.2.1, M.2.2.2.2.1, M.2.2.2.2.2.1, C, M.2.2.2.2.2.2.2)
theorem cbC_f {v : Int} {c : Nat} (hc : cOk c) (hv : 0 ≤ v) : cT (cbC v c) = cT c ∧ cS (cbC v c) = ((cS c : Int) - v).toNat ∧ cL (cbC v c) = cL c ∧ cP (cbC v c) = cP c ∧ cF (cbC v c) = cF c := by
  have a2 := cS_lt c
  have a3 := cL_lt c
  have a4 := cP_lt c
  have a5 := cF_lt c
  unfold cbC
  exact ⟨cT_O (by omega) a4 a3 a5, cS_O (by omega) a4 a3 a5, cL_O a3 a5, cP_O a4 a3 a5, cF_O a5⟩
section
variable {d n w : Nat} {g : Nat × Nat} {h : aHf} {y : Nat} {M : Md}
theorem md_cl0 {c : Int32} {C : Nat → Int32} {x : Int32} : aup (mdW h y (cpM M c C)) y (aB 10 [.int M.1.1, .ref (y + 1), .ref (y + 2), .ref (y + 3), .ref (y + 25), .int M.1.2.1, .int M.1.2.2.1, .int (bI (M.1.2.2.2.1 = true)), .ref (y + 47), .int x, .ref (y + 48), .ref (y + 49), .int M.1.2.2.2.2.2.1, .ref (y + 530), .long M.1.2.2.2.2.2.2]) = mdW h y (cpM M x C) := md_ob
theorem md_cl1 {c : Int32} {C C' : Nat → Int32} : aup (mdW h y (cpM M c C)) (y + 48) (aI .int 300 C') = mdW h y (cpM M c C') := md_c
theorem cl_step {t v u : Int} {m i : Nat} {F : Nat → Nat} {X C : Nat → Int32} (hm : m ≤ 60) (hi : i < m) (hF : cOk (F i)) (hv : 0 ≤ v ∧ v ≤ cS (F i)) (hC : clpOk C (slN F t v u i)) (hq : cIn (F i) t v u) :
    clpOk (upd (va_cpy (nB m F X) C (1 + 5 * i) (5 * (slN F t v u i).1) 5) (5 * (slN F t v u i).1 + 1) (iI ((cS (F i) : Int) - v))) (slN F t v u (i + 1)) := by
  obtain ⟨z1, z2, z3, z4, z5⟩ := cbC_f hF hv.1
  intro a j ha hj
  have e : slN F t v u (i + 1) = ((slN F t v u i).1 + 1, upN (slN F t v u i).2 (slN F t v u i).1 (cbC v (F i))) := if_pos hq
  rw [e] at ha ⊢
  have ha : a < (slN F t v u i).1 + 1 := ha
  show upd _ _ _ _ = iI (cFact (upN (slN F t v u i).2 (slN F t v u i).1 (cbC v (F i)) a) j)
  unfold upd va_cpy
  by_cases q : a = (slN F t v u i).1
  · rw [q, upN_at]
    by_cases q1 : j = 1
    · rw [if_pos (by omega), q1, cF1, z2, show ((((cS (F i) : Int) - v).toNat : Nat) : Int) = (cS (F i) : Int) - v by omega]
    · rw [if_neg (by omega), if_pos (by omega), show 1 + 5 * i + (5 * (slN F t v u i).1 + j - 5 * (slN F t v u i).1) = 1 + 5 * i + j by omega, nB_n hi hj]
      obtain rfl | rfl | rfl | rfl : j = 0 ∨ j = 2 ∨ j = 3 ∨ j = 4 := by omega
      · rw [cF0, cF0, z1]
      · rw [cF2, cF2, z3]
      · rw [cF3, cF3, z4]
      · rw [cF4, cF4, z5]
  · rw [if_neg (by omega), if_neg (by omega), upN_o q]
    exact hC a j (by omega) hj
theorem cp_28 {t v u : Int} {m : Nat} {F : Nat → Nat} {X : Nat → Int32} (hA : M.2.1 = nB m F X) (hm : m ≤ 60) (hF : ∀ i, cOk (F i)) (hr : rgOk t v u) : ∀ s i : Nat, i + s = m → ∀ C : Nat → Int32, clpOk C (slN F t v u i) → ∃ C', clpOk C' (slN F t v u m) ∧
    L (d + 2) 214 28 [some (.ref y), some (.int (iI t)), some (.int (iI v)), some (.int (iI u)), some (.int (iI i))] [] (mdW h y (cpM M (iI (slN F t v u i).1) C), n, w, g) = some (.inl (some (.int (iI (slN F t v u m).1))), (mdW h y (cpM M (iI (slN F t v u m).1) C'), n, w, g)) := by
  have g0 : gI (some (aI .int 385 (nB m F X))) (iI 0) = some (iI m) := gI_0 (by omega)
  have hr2 : -1 ≤ t ∧ t ≤ 5 ∧ 0 ≤ v ∧ v < u ∧ u ≤ 9600 := hr
  intro s
  induction s with
  | zero =>
    intro i hi C hC
    obtain rfl : i = m := by omega
    have m0 := md_0 (h := h) (y := y) (M := cpM M (iI (slN F t v u i).1) C)
    have m1 : mdW h y (cpM M (iI (slN F t v u i).1) C) (y + 1) = some (aI .int 385 (nB i F X)) := by rw [md_1]; exact congrArg (fun z => some (aI .int 385 z)) hA
    refine ⟨C, hC, ?_⟩
    rw [r214_28]
    simp (disch := omega) only [r214_30, r214_31, r214_34, r214_35, r214_36, m0, m1, g0, iI_le, Int.le_refl, kl_n, kl_i, kl_r, kl_z, kl_l, kl_d, catS_0, catS_c, cat_i, cat_l, cat_d, cat_r, cat_n, kC_r, kC_x, Option.bind_some, Option.toList_some, Option.toList_none, List.cons_append, List.nil_append, gB0, gB1, gB2, gB3, gB4, rvB, nI_iI, i0, i1, l0_, wr_s, aup_s, and_true, true_and, and_self, eq_self, if_true, if_false, Nat.zero_le, Nat.reduceAdd, Nat.reduceLeDiff, gN_I, gN_L, gN_P, bI_0, bI_ok, z0, z1, Bool.true_eq, Bool.false_eq_true, not_true_eq_false, not_false_eq_true]
    simp (disch := omega) only [r214_111, r214_112, r214_115, m0, mg9, kl_n, kl_i, kl_r, kl_z, kl_l, kl_d, catS_0, catS_c, cat_i, cat_l, cat_d, cat_r, cat_n, kC_r, kC_x, Option.bind_some, Option.toList_some, Option.toList_none, List.cons_append, List.nil_append, gB0, gB1, gB2, gB3, gB4, rvB, nI_iI, i0, i1, l0_, wr_s, aup_s, and_true, true_and, and_self, eq_self, if_true, if_false, Nat.zero_le, Nat.reduceAdd, Nat.reduceLeDiff, gN_I, gN_L, gN_P, bI_0, bI_ok, z0, z1, Bool.true_eq, Bool.false_eq_true, not_true_eq_false, not_false_eq_true]
    rfl
  | succ s ih =>
    intro i hi C hC
    have him : i < m := by omega
    have c1 : ¬ (m : Int) ≤ i := by omega
    have e1 : (i : Int) + 1 = ((i + 1 : Nat) : Int) := by omega
    have cl := slN_1 F t v u i
    have cb := cntP_le (inB4 t v u) F i
    have m0 := fun c C => md_0 (h := h) (y := y) (M := cpM M c C)
    have m1 : ∀ c C, mdW h y (cpM M c C) (y + 1) = some (aI .int 385 (nB m F X)) := fun c C => by rw [md_1]; exact congrArg (fun z => some (aI .int 385 z)) hA
    have m48 : ∀ c C, mdW h y (cpM M c C) (y + 48) = some (aI .int 300 C) := fun c C => md_48
    have ii := r_isIn (d := d) (h := h) (r := (n, w, g)) (y := y) (M := cpM M (iI (slN F t v u i).1) C) (X := X) hA hm him hF hr
    by_cases q : cIn (F i) t v u
    · have qT := eq_true q
      have hv : 0 ≤ v ∧ v ≤ cS (F i) := ⟨hr2.2.2.1, q.2.1⟩
      have stp := cl_step (X := X) hm him (hF i) hv hC q
      have es : (slN F t v u (i + 1)).1 = (slN F t v u i).1 + 1 := by
        rw [show slN F t v u (i + 1) = ((slN F t v u i).1 + 1, upN (slN F t v u i).2 (slN F t v u i).1 (cbC v (F i))) from if_pos q]
      obtain ⟨C', k1, k2⟩ := ih (i + 1) (by omega) _ stp
      rw [es] at k2
      generalize (slN F t v u i).1 = cc at cl stp k2 ii ⊢
      have f1 : 1 + 5 * (i : Int) = ((1 + 5 * i : Nat) : Int) := by omega
      have f2 : 5 * (cc : Int) = ((5 * cc : Nat) : Int) := by omega
      have f3 : ((5 * cc : Nat) : Int) + 1 = ((5 * cc + 1 : Nat) : Int) := by omega
      have f4 : (cc : Int) + 1 = ((cc + 1 : Nat) : Int) := by omega
      have ac := s_acopy (h := mdW h y (cpM M (iI cc) C)) (n := n) (r := (w, g)) (s := y + 1) (t := y + 48) (sp := 1 + 5 * i) (dp := 5 * cc) (m := 5) (m1 _ _) (m48 _ _) (by omega) (by omega) (by omega) (by omega)
      rw [md_cl1, show ((5 : Nat) : Int) = 5 from rfl] at ac
      have gv : gI (some (aI .int 300 (va_cpy (nB m F X) C (1 + 5 * i) (5 * cc) 5))) (iI ((5 * cc + 1 : Nat) : Int)) = some (iI (cS (F i))) := by
        rw [gI_I (by omega) (by omega) (by omega), Int.toNat_natCast]
        unfold va_cpy
        rw [if_pos (by omega), show 1 + 5 * i + (5 * cc + 1 - 5 * cc) = 1 + 5 * i + 1 by omega, nB_n him (by omega), cF1]
      have sv : sI (some (aI .int 300 (va_cpy (nB m F X) C (1 + 5 * i) (5 * cc) 5))) (iI ((5 * cc + 1 : Nat) : Int)) (iI ((cS (F i) : Int) - v)) = some (aI .int 300 (upd (va_cpy (nB m F X) C (1 + 5 * i) (5 * cc) 5) (5 * cc + 1) (iI ((cS (F i) : Int) - v)))) := by
        rw [sI_I (by omega) (by omega) (by omega), Int.toNat_natCast]
      have f9 : ∀ C, mdW h y (cpM M (iI cc) C) y = some (aB 10 [.int M.1.1, .ref (y + 1), .ref (y + 2), .ref (y + 3), .ref (y + 25), .int M.1.2.1, .int M.1.2.2.1, .int (bI (M.1.2.2.2.1 = true)), .ref (y + 47), .int (iI cc), .ref (y + 48), .ref (y + 49), .int M.1.2.2.2.2.2.1, .ref (y + 530), .long M.1.2.2.2.2.2.2]) := fun C => md_0
      refine ⟨C', k1, ?_⟩
      rw [r214_28]
      simp (disch := omega) only [r214_30, r214_31, r214_34, r214_35, r214_36, r214_39, r214_40, r214_42, r214_43, r214_44, r214_45, r214_48, r214_51, f9, m1, g0, iI_le, c1, ii, qT, kl_n, kl_i, kl_r, kl_z, kl_l, kl_d, catS_0, catS_c, cat_i, cat_l, cat_d, cat_r, cat_n, kC_r, kC_x, Option.bind_some, Option.toList_some, Option.toList_none, List.cons_append, List.nil_append, gB0, gB1, gB2, gB3, gB4, rvB, nI_iI, i0, i1, l0_, wr_s, aup_s, and_true, true_and, and_self, eq_self, if_true, if_false, Nat.zero_le, Nat.reduceAdd, Nat.reduceLeDiff, gN_I, gN_L, gN_P, bI_0, bI_ok, z0, z1, Bool.true_eq, Bool.false_eq_true, not_true_eq_false, not_false_eq_true]
      simp (disch := omega) only [r214_54, r214_55, r214_58, r214_59, r214_60, r214_62, r214_63, r214_64, r214_65, r214_68, r214_69, r214_70, r214_73, r214_74, r214_75, r214_78, r214_79, r214_82, r214_83, r214_84, r214_87, r214_88, r214_89, r214_90, r214_91, r214_92, r214_93, r214_94, f9, gB1, mg10, mg9, iI_mul, iI_add, f1, f2, ac, f3, m48, gv, iI_sub, sv, md_cl1, kl_n, kl_i, kl_r, kl_z, kl_l, kl_d, catS_0, catS_c, cat_i, cat_l, cat_d, cat_r, cat_n, kC_r, kC_x, Option.bind_some, Option.toList_some, Option.toList_none, List.cons_append, List.nil_append, gB0, gB1, gB2, gB3, gB4, rvB, nI_iI, i0, i1, l0_, wr_s, aup_s, and_true, true_and, and_self, eq_self, if_true, if_false, Nat.zero_le, Nat.reduceAdd, Nat.reduceLeDiff, gN_I, gN_L, gN_P, bI_0, bI_ok, z0, z1, Bool.true_eq, Bool.false_eq_true, not_true_eq_false, not_false_eq_true]
      simp (disch := omega) only [r214_95, r214_96i, r214_96, r214_97, r214_100, r214_101, r214_102, r214_105, r214_108, f9, mg9, iI_add, f4, ms9, md_cl0, e1, k2, kl_n, kl_i, kl_r, kl_z, kl_l, kl_d, catS_0, catS_c, cat_i, cat_l, cat_d, cat_r, cat_n, kC_r, kC_x, Option.bind_some, Option.toList_some, Option.toList_none, List.cons_append, List.nil_append, gB0, gB1, gB2, gB3, gB4, rvB, nI_iI, i0, i1, l0_, wr_s, aup_s, and_true, true_and, and_self, eq_self, if_true, if_false, Nat.zero_le, Nat.reduceAdd, Nat.reduceLeDiff, gN_I, gN_L, gN_P, bI_0, bI_ok, z0, z1, Bool.true_eq, Bool.false_eq_true, not_true_eq_false, not_false_eq_true]
    · have qF := eq_false q
      have es : slN F t v u (i + 1) = slN F t v u i := if_neg q
      obtain ⟨C', k1, k2⟩ := ih (i + 1) (by omega) C (by rw [es]; exact hC)
      rw [es] at k2
      refine ⟨C', k1, ?_⟩
      rw [r214_28]
      simp (disch := omega) only [r214_30, r214_31, r214_34, r214_35, r214_36, r214_39, r214_40, r214_42, r214_43, r214_44, r214_45, r214_48, r214_51, m0, m1, g0, iI_le, c1, ii, qF, kl_n, kl_i, kl_r, kl_z, kl_l, kl_d, catS_0, catS_c, cat_i, cat_l, cat_d, cat_r, cat_n, kC_r, kC_x, Option.bind_some, Option.toList_some, Option.toList_none, List.cons_append, List.nil_append, gB0, gB1, gB2, gB3, gB4, rvB, nI_iI, i0, i1, l0_, wr_s, aup_s, and_true, true_and, and_self, eq_self, if_true, if_false, Nat.zero_le, Nat.reduceAdd, Nat.reduceLeDiff, gN_I, gN_L, gN_P, bI_0, bI_ok, z0, z1, Bool.true_eq, Bool.false_eq_true, not_true_eq_false, not_false_eq_true]
      simp (disch := omega) only [r214_105, r214_108, iI_add, e1, k2, kl_n, kl_i, kl_r, kl_z, kl_l, kl_d, catS_0, catS_c, cat_i, cat_l, cat_d, cat_r, cat_n, kC_r, kC_x, Option.bind_some, Option.toList_some, Option.toList_none, List.cons_append, List.nil_append, gB0, gB1, gB2, gB3, gB4, rvB, nI_iI, i0, i1, l0_, wr_s, aup_s, and_true, true_and, and_self, eq_self, if_true, if_false, Nat.zero_le, Nat.reduceAdd, Nat.reduceLeDiff, gN_I, gN_L, gN_P, bI_0, bI_ok, z0, z1, Bool.true_eq, Bool.false_eq_true, not_true_eq_false, not_false_eq_true]
theorem r_copy {t v u : Int} {m : Nat} {F : Nat → Nat} {X : Nat → Int32} (hA : M.2.1 = nB m F X) (hm : m ≤ 60) (hF : ∀ i, cOk (F i)) (hr : rgOk t v u) : ∃ C', clpOk C' (slN F t v u m) ∧ aE (d + 3) 214 [.ref y, .int (iI t), .int (iI v), .int (iI u)] (mdW h y M, n, w, g) =
    some (.inl (some (.int (iI (slN F t v u m).1))), (mdW h y (cpM ((iI 0, M.1.2), M.2) (iI (slN F t v u m).1) C'), n, w, g)) := by
  have qr := eq_true (show -1 ≤ t ∧ t ≤ 5 ∧ 0 ≤ v ∧ v < u ∧ u ≤ 9600 from hr)
  have hr2 : -1 ≤ t ∧ t ≤ 5 ∧ 0 ≤ v ∧ v < u ∧ u ≤ 9600 := hr
  obtain ⟨C', k1, k2⟩ := cp_28 (d := d) (n := n) (w := w) (g := g) (h := h) (y := y) (M := ((iI 0, M.1.2), M.2)) (X := X) hA hm hF hr m 0 (by omega) M.2.2.2.2.2.2.1 (fun i j hi => absurd hi (Nat.not_lt_zero i))
  rw [show (((slN F t v u 0).1 : Nat) : Int) = 0 from rfl, show ((0 : Nat) : Int) = 0 from rfl] at k2
  have ob := md_cl0 (h := h) (y := y) (M := ((iI 0, M.1.2), M.2)) (c := M.1.2.2.2.2.1) (C := M.2.2.2.2.2.2.1) (x := iI 0)
  have m0 := md_0 (h := h) (y := y) (M := ((iI 0, M.1.2), M.2))
  refine ⟨C', k1, ?_⟩
  have k20 : L (d + 2) 214 20 [some (.ref y), some (.int (iI t)), some (.int (iI v)), some (.int (iI u)), none] [] (mdW h y ((iI 0, M.1.2), M.2), n, w, g) = L (d + 2) 214 28 [some (.ref y), some (.int (iI t)), some (.int (iI v)), some (.int (iI u)), some (.int (iI 0))] [] (mdW h y (cpM ((iI 0, M.1.2), M.2) (iI 0) M.2.2.2.2.2.2.1), n, w, g) := by
    simp (disch := omega) only [r214_20, r214_21, r214_22, r214_25, r214_26, m0, ms9, kl_n, kl_i, kl_r, kl_z, kl_l, kl_d, catS_0, catS_c, cat_i, cat_l, cat_d, cat_r, cat_n, kC_r, kC_x, Option.bind_some, Option.toList_some, Option.toList_none, List.cons_append, List.nil_append, gB0, gB1, gB2, gB3, gB4, rvB, nI_iI, i0, i1, l0_, wr_s, aup_s, and_true, true_and, and_self, eq_self, if_true, if_false, Nat.zero_le, Nat.reduceAdd, Nat.reduceLeDiff, gN_I, gN_L, gN_P, bI_0, bI_ok, z0, z1, Bool.true_eq, Bool.false_eq_true, not_true_eq_false, not_false_eq_true]
    exact congrArg (fun z => L (d + 2) 214 28 [some (.ref y), some (.int (iI t)), some (.int (iI v)), some (.int (iI u)), some (.int (iI 0))] [] (z, n, w, g)) ob
  rw [e214]
  simp (disch := omega) only [r214_0, r214_1, r214_2, r214_5, r214_6, r214_7, r214_8, r214_11, r214_14, r214_15, r214_16, r214_19, md_0, sB0i, md_th, s_mRange, qr, k20, k2, kl_n, kl_i, kl_r, kl_z, kl_l, kl_d, catS_0, catS_c, cat_i, cat_l, cat_d, cat_r, cat_n, kC_r, kC_x, Option.bind_some, Option.toList_some, Option.toList_none, List.cons_append, List.nil_append, gB0, gB1, gB2, gB3, gB4, rvB, nI_iI, i0, i1, l0_, wr_s, aup_s, and_true, true_and, and_self, eq_self, if_true, if_false, Nat.zero_le, Nat.reduceAdd, Nat.reduceLeDiff, gN_I, gN_L, gN_P, bI_0, bI_ok, z0, z1, Bool.true_eq, Bool.false_eq_true, not_true_eq_false, not_false_eq_true]
theorem r_copy_1 {t v u : Int} (b1 : -2147483648 ≤ t ∧ t < 2147483648) (b2 : -2147483648 ≤ v ∧ v < 2147483648) (b3 : -2147483648 ≤ u ∧ u < 2147483648) (hc : ¬ rgOk t v u) :
    aE (d + 3) 214 [.ref y, .int (iI t), .int (iI v), .int (iI u)] (mdW h y M, n, w, g) = some (.inl (some (.int (iI 0))), (mdW h y ((iI 1, M.1.2), M.2), n, w, g)) := by
  have qF := eq_false (hc : ¬ (-1 ≤ t ∧ t ≤ 5 ∧ 0 ≤ v ∧ v < u ∧ u ≤ 9600))
  rw [e214]
  simp (disch := omega) only [r214_0, r214_1, r214_2, r214_5, r214_6, r214_7, r214_8, r214_11, r214_14, r214_15, r214_16, r214_19, md_0, sB0i, md_th, s_mRange, qF, r_refuse, kl_n, kl_i, kl_r, kl_z, kl_l, kl_d, catS_0, catS_c, cat_i, cat_l, cat_d, cat_r, cat_n, kC_r, kC_x, Option.bind_some, Option.toList_some, Option.toList_none, List.cons_append, List.nil_append, gB0, gB1, gB2, gB3, gB4, rvB, nI_iI, i0, i1, l0_, wr_s, aup_s, and_true, true_and, and_self, eq_self, if_true, if_false, Nat.zero_le, Nat.reduceAdd, Nat.reduceLeDiff, gN_I, gN_L, gN_P, bI_0, bI_ok, z0, z1, Bool.true_eq, Bool.false_eq_true, not_true_eq_false, not_false_eq_true]
/-! paste -/
/-- how many cells pasting makes -/
def pcN (C : Nat → Nat) (k : Nat) (e : NLv) : Nat → Nat
  | 0 => 0
  | j + 1 => pcN C k e j + 1 + if k + cS (C j) ≤ 9599 then (psN C k j e).1 + 1 - sk (psN C k j e).2 (psC k (C j)) (psN C k j e).1 else 0
theorem pp_25 {k cc : Nat} {C : Nat → Nat} (hk : k ≤ 9599) (hcc : cc ≤ 60) (hc : M.1.2.2.2.2.1 = iI cc) (hC : clpOk M.2.2.2.2.2.2.1 (cc, C)) : ∀ s i : Nat, i + s = cc → L (d + 2) 215 25 [some (.ref y), some (.int (iI k)), some (.int (iI (cntP (ptP k) C i))), some (.int (iI i)), none] [] (mdW h y M, n, w, g) =
    L (d + 2) 215 65 [some (.ref y), some (.int (iI k)), some (.int (iI (cntP (ptP k) C cc))), some (.int (iI cc)), none] [] (mdW h y M, n, w, g) := by
  intro s
  induction s with
  | zero =>
    intro i hi
    obtain rfl : i = cc := by omega
    rw [r215_25]
    simp (disch := omega) only [r215_26, r215_27, r215_30, md_0, mg9, hc, iI_le, Int.le_refl, kl_n, kl_i, kl_r, kl_z, kl_l, kl_d, catS_0, catS_c, cat_i, cat_l, cat_d, cat_r, cat_n, kC_r, kC_x, Option.bind_some, Option.toList_some, Option.toList_none, List.cons_append, List.nil_append, gB0, gB1, gB2, gB3, gB4, rvB, nI_iI, i0, i1, l0_, wr_s, aup_s, and_true, true_and, and_self, eq_self, if_true, if_false, Nat.zero_le, Nat.reduceAdd, Nat.reduceLeDiff, gN_I, gN_L, gN_P, bI_0, bI_ok, z0, z1, Bool.true_eq, Bool.false_eq_true, not_true_eq_false, not_false_eq_true]
  | succ s ih =>
    intro i hi
    have hic : i < cc := by omega
    have c1 : ¬ (cc : Int) ≤ i := by omega
    have e1 : (i : Int) + 1 = ((i + 1 : Nat) : Int) := by omega
    have f1 : 5 * (i : Int) + 1 = ((5 * i + 1 : Nat) : Int) := by omega
    have gv : gI (some (aI .int 300 M.2.2.2.2.2.2.1)) (iI ((5 * i + 1 : Nat) : Int)) = some (iI (cS (C i))) := by
      rw [gI_I (by omega) (by omega) (by omega), Int.toNat_natCast, hC i 1 hic (by omega), cF1]
    have a2 := cS_lt (C i)
    have h9 := ih (i + 1) (by omega)
    by_cases q : k + cS (C i) ≤ 9599
    · have q2 : ¬ (9600 : Int) ≤ (k : Int) + (cS (C i) : Int) := by omega
      have e2 : ((cntP (ptP k) C i : Nat) : Int) + 1 = ((cntP (ptP k) C i + 1 : Nat) : Int) := by omega
      rw [cntP_t (decide_eq_true q)] at h9
      rw [r215_25]
      simp (disch := omega) only [r215_26, r215_27, r215_30, r215_33, r215_34, r215_35, r215_36, r215_39, r215_40, r215_41, r215_42, r215_43, r215_44, r215_45, r215_46, r215_49, r215_52, r215_53, r215_56, r215_57, r215_58, r215_59, r215_62, md_0, mg9, hc, iI_le, c1, mg10, md_48, iI_mul, iI_add, f1, gv, q2, e2, e1, h9, kl_n, kl_i, kl_r, kl_z, kl_l, kl_d, catS_0, catS_c, cat_i, cat_l, cat_d, cat_r, cat_n, kC_r, kC_x, Option.bind_some, Option.toList_some, Option.toList_none, List.cons_append, List.nil_append, gB0, gB1, gB2, gB3, gB4, rvB, nI_iI, i0, i1, l0_, wr_s, aup_s, and_true, true_and, and_self, eq_self, if_true, if_false, Nat.zero_le, Nat.reduceAdd, Nat.reduceLeDiff, gN_I, gN_L, gN_P, bI_0, bI_ok, z0, z1, Bool.true_eq, Bool.false_eq_true, not_true_eq_false, not_false_eq_true]
    · have q2 : (9600 : Int) ≤ (k : Int) + (cS (C i) : Int) := by omega
      have e2 : ((cntP (ptP k) C i : Nat) : Int) + 0 = ((cntP (ptP k) C i : Nat) : Int) := by omega
      rw [cntP_f (fun z => q (of_decide_eq_true z))] at h9
      rw [r215_25]
      simp (disch := omega) only [r215_26, r215_27, r215_30, r215_33, r215_34, r215_35, r215_36, r215_39, r215_40, r215_41, r215_42, r215_43, r215_44, r215_45, r215_46, r215_49, r215_52, r215_53, r215_56, r215_57, r215_58, r215_59, r215_62, md_0, mg9, hc, iI_le, c1, mg10, md_48, iI_mul, iI_add, f1, gv, q2, e2, e1, h9, kl_n, kl_i, kl_r, kl_z, kl_l, kl_d, catS_0, catS_c, cat_i, cat_l, cat_d, cat_r, cat_n, kC_r, kC_x, Option.bind_some, Option.toList_some, Option.toList_none, List.cons_append, List.nil_append, gB0, gB1, gB2, gB3, gB4, rvB, nI_iI, i0, i1, l0_, wr_s, aup_s, and_true, true_and, and_self, eq_self, if_true, if_false, Nat.zero_le, Nat.reduceAdd, Nat.reduceLeDiff, gN_I, gN_L, gN_P, bI_0, bI_ok, z0, z1, Bool.true_eq, Bool.false_eq_true, not_true_eq_false, not_false_eq_true]
theorem pl_86 {k cc m : Nat} {C F : Nat → Nat} {X : Nat → Int32} {l2 : Int32} (hy : y + 531 ≤ n) (hk : k ≤ 9599) (hcc : cc ≤ 60) (hc : M.1.2.2.2.2.1 = iI cc) (hC : clpOk M.2.2.2.2.2.2.1 (cc, C)) (hCo : ∀ i, cOk (C i)) (hF : ∀ i, cOk (F i)) (hR : m + cntP (ptP k) C cc ≤ 60) : ∀ s i : Nat, i + s = cc → ∀ (n' w' : Nat) (h' : aHf), n ≤ n' → (∀ q, q < n → h' q = h q) → ∀ l4 : Option Value, ∃ h2 t v4, (∀ q, q < n → h2 q = h q) ∧ t + pcN C k (m, F) i ≤ pcN C k (m, F) cc ∧
    L (d + 4) 215 86 [some (.ref y), some (.int (iI k)), some (.int l2), some (.int (iI i)), l4] [] (mdW h' y (alM M (nB (psN C k i (m, F)).1 (psN C k i (m, F)).2 X)), n', w', g) =
      L (d + 4) 215 143 [some (.ref y), some (.int (iI k)), some (.int l2), some (.int (iI cc)), v4] [] (mdW h2 y (alM M (nB (psN C k cc (m, F)).1 (psN C k cc (m, F)).2 X)), n' + t, w' + 5 * t, g) := by
  intro s
  induction s with
  | zero =>
    intro i hi n' w' h' hn hh l4
    obtain rfl : i = cc := by omega
    have m0 : mdW h' y (alM M (nB (psN C k i (m, F)).1 (psN C k i (m, F)).2 X)) y = mdW h' y (alM M (nB (psN C k i (m, F)).1 (psN C k i (m, F)).2 X)) y := rfl
    rw [md_0] at m0
    have md := md_0 (h := h') (y := y) (M := alM M (nB (psN C k i (m, F)).1 (psN C k i (m, F)).2 X))
    have hc2 : (alM M (nB (psN C k i (m, F)).1 (psN C k i (m, F)).2 X)).1.2.2.2.2.1 = iI i := hc
    refine ⟨h', 0, l4, hh, by omega, ?_⟩
    rw [r215_86]
    simp (disch := omega) only [r215_87, r215_88, r215_91, md, mg9, hc2, iI_le, Int.le_refl, kl_n, kl_i, kl_r, kl_z, kl_l, kl_d, catS_0, catS_c, cat_i, cat_l, cat_d, cat_r, cat_n, kC_r, kC_x, Option.bind_some, Option.toList_some, Option.toList_none, List.cons_append, List.nil_append, gB0, gB1, gB2, gB3, gB4, rvB, nI_iI, i0, i1, l0_, wr_s, aup_s, and_true, true_and, and_self, eq_self, if_true, if_false, Nat.zero_le, Nat.reduceAdd, Nat.reduceLeDiff, gN_I, gN_L, gN_P, bI_0, bI_ok, z0, z1, Bool.true_eq, Bool.false_eq_true, not_true_eq_false, not_false_eq_true]
    rfl
  | succ s ih =>
    intro i hi n' w' h' hn hh l4
    have hic : i < cc := by omega
    have c1 : ¬ (cc : Int) ≤ i := by omega
    have e1 : (i : Int) + 1 = ((i + 1 : Nat) : Int) := by omega
    have f1 : 5 * (i : Int) = ((5 * i : Nat) : Int) := by omega
    have f2 : ((5 * i : Nat) : Int) + 5 = ((5 * i + 5 : Nat) : Int) := by omega
    have a2 := cS_lt (C i)
    obtain ⟨e, he⟩ : ∃ e, e = psN C k i (m, F) := ⟨_, rfl⟩
    have hm1 := psN_1 (C := C) (k := k) (e := (m, F)) i
    rw [← he] at hm1
    have hm2 : e.1 = m + cntP (ptP k) C i := hm1
    have eOk := psN_ok (C := C) (k := k) (e := (m, F)) hCo hF i
    rw [← he] at eOk ⊢
    have md := fun h => md_0 (h := h) (y := y) (M := alM M (nB e.1 e.2 X))
    have hc2 : (alM M (nB e.1 e.2 X)).1.2.2.2.2.1 = iI cc := hc
    have cr := s_cpR (d := d + 1) (w := w') (g := g) (n := n') (h := mdW h' y (alM M (nB e.1 e.2 X))) (p := y + 48) (a := 5 * i) (b := 5 * i + 5) (N := 300) (f := M.2.2.2.2.2.2.1) md_48 (by omega) (by omega) (by omega)
    rw [md_n (show y + 531 ≤ n' by omega), show 5 * i + 5 - 5 * i = 5 by omega] at cr
    obtain ⟨f, hf⟩ : ∃ f, f = va_cpy M.2.2.2.2.2.2.1 (fun _ => iI 0) (5 * i) 0 5 := ⟨_, rfl⟩
    rw [← hf] at cr
    have fa : ∀ j, j < 5 → f j = iI (cFact (C i) j) := fun j hj => by
      rw [hf]
      unfold va_cpy
      rw [if_pos (by omega), show 5 * i + (j - 0) = 5 * i + j by omega]
      exact hC i j hic hj
    have g1 : gI (some (aI .int 5 f)) (iI 1) = some (iI (cS (C i))) := by
      have z := gI_I (N := 5) (f := f) (j := 1) (by omega) (by omega) (by omega)
      rw [z]
      exact congrArg some ((fa 1 (by omega)).trans (by rw [cF1]))
    have f3 : (cS (C i) : Int) + (k : Int) = ((k + cS (C i) : Nat) : Int) := by omega
    have g2 : gI (some (aI .int 5 (upd f 1 (iI (k + cS (C i) : Nat))))) (iI 1) = some (iI (k + cS (C i) : Nat)) := by
      have z := gI_I (N := 5) (f := upd f 1 (iI (k + cS (C i) : Nat))) (j := 1) (by omega) (by omega) (by omega)
      rw [z]
      rfl
    have k119 : L (d + 4) 215 86 [some (.ref y), some (.int (iI k)), some (.int l2), some (.int (iI i)), l4] [] (mdW h' y (alM M (nB e.1 e.2 X)), n', w', g) =
        L (d + 4) 215 119 [some (.ref y), some (.int (iI k)), some (.int l2), some (.int (iI i)), some (.ref n')] [] (mdW (aup h' n' (aI .int 5 (upd f 1 (iI (k + cS (C i) : Nat))))) y (alM M (nB e.1 e.2 X)), n' + 1, w' + 5, g) := by
      rw [r215_86]
      simp (disch := omega) only [r215_87, r215_88, r215_91, r215_94, r215_95, r215_98, r215_99, r215_100, r215_101, r215_102, r215_103, r215_104, r215_105, r215_106, r215_109, r215_111, r215_113, r215_114, r215_115, r215_116, r215_117, r215_118, md, mg9, hc2, iI_le, c1, mg10, iI_mul, iI_add, f1, f2, cr, md_out (show y + 531 ≤ n' by omega), aup_s, g1, f3, n5_1, md_n (show y + 531 ≤ n' by omega), aup_2, kl_n, kl_i, kl_r, kl_z, kl_l, kl_d, catS_0, catS_c, cat_i, cat_l, cat_d, cat_r, cat_n, kC_r, kC_x, Option.bind_some, Option.toList_some, Option.toList_none, List.cons_append, List.nil_append, gB0, gB1, gB2, gB3, gB4, rvB, nI_iI, i0, i1, l0_, wr_s, aup_s, and_true, true_and, and_self, eq_self, if_true, if_false, Nat.zero_le, Nat.reduceAdd, Nat.reduceLeDiff, gN_I, gN_L, gN_P, bI_0, bI_ok, z0, z1, Bool.true_eq, Bool.false_eq_true, not_true_eq_false, not_false_eq_true]
    rw [k119]
    have hh2 : ∀ q, q < n → aup h' n' (aI .int 5 (upd f 1 (iI (k + cS (C i) : Nat)))) q = h q := fun q hq => (aup_o (by omega)).trans (hh q hq)
    have cm := cntP_mono (ptP k) C (show i + 1 ≤ cc by omega)
    by_cases q : k + cS (C i) ≤ 9599
    · have q2 : ¬ (9600 : Int) ≤ ((k + cS (C i) : Nat) : Int) := by omega
      rw [cntP_t (decide_eq_true q)] at cm
      have pc : cOk (psC k (C i)) := cO_ok (cT_lt (hCo i)) (by omega) (cP_lt _) (cL_lt _) (cF_lt _)
      obtain ⟨t, t1, pu⟩ := r_put (d := d + 2) (n := n' + 1) (w := w' + 5) (g := g) (h := aup h' n' (aI .int 5 (upd f 1 (iI (k + cS (C i) : Nat))))) (y := y) (M := alM M (nB e.1 e.2 X)) (p := n') (a := 0) (N := 5) (c := psC k (C i)) (m := e.1) (F := e.2) (R := X) (f := upd f 1 (iI (k + cS (C i) : Nat))) (by omega) aup_s (by omega) (by omega) (by omega) (fun j hj => by
        have a3 := cL_lt (C i)
        have a4 := cP_lt (C i)
        have a5 := cF_lt (C i)
        have z1 : cT (psC k (C i)) = cT (C i) := cT_O (by omega) a4 a3 a5
        have z2 : cS (psC k (C i)) = k + cS (C i) := cS_O (by omega) a4 a3 a5
        have z3 : cL (psC k (C i)) = cL (C i) := cL_O a3 a5
        have z4 : cP (psC k (C i)) = cP (C i) := cP_O a4 a3 a5
        have z5 : cF (psC k (C i)) = cF (C i) := cF_O a5
        rw [Nat.zero_add]
        unfold upd
        obtain rfl | rfl | rfl | rfl | rfl : j = 0 ∨ j = 1 ∨ j = 2 ∨ j = 3 ∨ j = 4 := by omega
        · rw [if_neg (by omega), fa 0 (by omega), cF0, cF0, z1]
        · rw [if_pos rfl, cF1, z2]
        · rw [if_neg (by omega), fa 2 (by omega), cF2, cF2, z3]
        · rw [if_neg (by omega), fa 3 (by omega), cF3, cF3, z4]
        · rw [if_neg (by omega), fa 4 (by omega), cF4, cF4, z5]) pc eOk (by omega) rfl
      rw [show ((0 : Nat) : Int) = 0 from rfl] at pu
      have eN : psN C k (i + 1) (m, F) = nlA e (psC k (C i)) := by
        rw [he]
        exact if_pos q
      obtain ⟨h2, t2, v4, y1, y2, y3⟩ := ih (i + 1) (by omega) (n' + 1 + t) (w' + 5 + 5 * t) _ (by omega) hh2 (some (.ref n'))
      rw [eN] at y3
      have ep : pcN C k (m, F) (i + 1) = pcN C k (m, F) i + 1 + (e.1 + 1 - sk e.2 (psC k (C i)) e.1) := by
        show pcN C k (m, F) i + 1 + (if k + cS (C i) ≤ 9599 then _ else 0) = _
        rw [if_pos q, ← he]
      refine ⟨h2, 1 + t + t2, v4, y1, by omega, ?_⟩
      have pu2 : aE (d + 4) 201 [.ref y, .ref n', .int (iI 0)] (mdW (aup h' n' (aI .int 5 (upd f 1 (iI (k + cS (C i) : Nat))))) y (alM M (nB e.1 e.2 X)), n' + 1, w' + 5, g) = some (.inl (some (.int (iI (sk e.2 (psC k (C i)) e.1)))), (mdW (aup h' n' (aI .int 5 (upd f 1 (iI (k + cS (C i) : Nat))))) y (alM M (nB (nlA e (psC k (C i))).1 (nlA e (psC k (C i))).2 X)), n' + 1 + t, w' + 5 + 5 * t, g)) := pu
      simp (disch := omega) only [r215_119, r215_121, r215_122, r215_123, r215_126, r215_129, r215_130, r215_132, r215_133, r215_136i, r215_136, r215_137, r215_140, md_out (show y + 531 ≤ n' by omega), aup_s, g2, iI_le, q2, md, pu2, iI_add, e1, y3, kl_n, kl_i, kl_r, kl_z, kl_l, kl_d, catS_0, catS_c, cat_i, cat_l, cat_d, cat_r, cat_n, kC_r, kC_x, Option.bind_some, Option.toList_some, Option.toList_none, List.cons_append, List.nil_append, gB0, gB1, gB2, gB3, gB4, rvB, nI_iI, i0, i1, l0_, wr_s, aup_s, and_true, true_and, and_self, eq_self, if_true, if_false, Nat.zero_le, Nat.reduceAdd, Nat.reduceLeDiff, gN_I, gN_L, gN_P, bI_0, bI_ok, z0, z1, Bool.true_eq, Bool.false_eq_true, not_true_eq_false, not_false_eq_true]
      rw [show n' + 1 + t + t2 = n' + (1 + t + t2) by omega, show w' + 5 + 5 * t + 5 * t2 = w' + 5 * (1 + t + t2) by omega]
    · have q2 : (9600 : Int) ≤ ((k + cS (C i) : Nat) : Int) := by omega
      have eN : psN C k (i + 1) (m, F) = e := by
        rw [he]
        exact if_neg q
      obtain ⟨h2, t2, v4, y1, y2, y3⟩ := ih (i + 1) (by omega) (n' + 1) (w' + 5) _ (by omega) hh2 (some (.ref n'))
      rw [eN] at y3
      have ep : pcN C k (m, F) (i + 1) = pcN C k (m, F) i + 1 := by
        show pcN C k (m, F) i + 1 + (if k + cS (C i) ≤ 9599 then _ else 0) = _
        rw [if_neg q]
      refine ⟨h2, 1 + t2, v4, y1, by omega, ?_⟩
      simp (disch := omega) only [r215_119, r215_121, r215_122, r215_123, r215_126, r215_129, r215_130, r215_132, r215_133, r215_136i, r215_136, r215_137, r215_140, md_out (show y + 531 ≤ n' by omega), aup_s, g2, iI_le, q2, iI_add, e1, y3, kl_n, kl_i, kl_r, kl_z, kl_l, kl_d, catS_0, catS_c, cat_i, cat_l, cat_d, cat_r, cat_n, kC_r, kC_x, Option.bind_some, Option.toList_some, Option.toList_none, List.cons_append, List.nil_append, gB0, gB1, gB2, gB3, gB4, rvB, nI_iI, i0, i1, l0_, wr_s, aup_s, and_true, true_and, and_self, eq_self, if_true, if_false, Nat.zero_le, Nat.reduceAdd, Nat.reduceLeDiff, gN_I, gN_L, gN_P, bI_0, bI_ok, z0, z1, Bool.true_eq, Bool.false_eq_true, not_true_eq_false, not_false_eq_true]
      rw [show n' + 1 + t2 = n' + (1 + t2) by omega, show w' + 5 + 5 * t2 = w' + 5 * (1 + t2) by omega]
theorem r_paste {k cc m uu : Nat} {C F : Nat → Nat} {X : Nat → Int32} (hy : y + 531 ≤ n) (hA : M.2.1 = nB m F X) (hm : m ≤ 60) (hk : k ≤ 9599) (hcc : cc ≤ 60) (hc : M.1.2.2.2.2.1 = iI cc) (hC : clpOk M.2.2.2.2.2.2.1 (cc, C)) (hCo : ∀ i, cOk (C i)) (hF : ∀ i, cOk (F i)) (hR : m + cntP (ptP k) C cc ≤ 60) (hu : M.1.2.1 = iI uu) (hbu : uu ≤ 20) (hU : ∀ i, i < 21 → M.2.2.2.1.1 i < 21) :
    ∃ t, t ≤ pcN C k (m, F) cc ∧ aE (d + 9) 215 [.ref y, .int (iI k)] (mdW h y M, n, w, g) = some (.inl (some (.int (iI (cntP (ptP k) C cc)))), (mdW h y (dnM (alM (bgM M) (nB (psN C k cc (m, F)).1 (psN C k cc (m, F)).2 X)) uu), n + t, w + 5 * t, g)) := by
  have q1 : (0 : Int) ≤ k ∧ (k : Int) ≤ 9599 := by omega
  have g0 : gI (some (aI .int 385 (nB m F X))) (iI 0) = some (iI m) := gI_0 (by omega)
  have q2 : (m : Int) + ((cntP (ptP k) C cc : Nat) : Int) ≤ 60 := by omega
  have bg := r_begin (d := d + 7) (n := n) (w := w) (g := g) (h := h) (y := y) (M := M)
  have m0 := md_0 (h := h) (y := y) (M := bgM M)
  have m1 : mdW h y (bgM M) (y + 1) = some (aI .int 385 (nB m F X)) := by rw [md_1]; exact congrArg (fun z => some (aI .int 385 z)) hA
  have k0 := pp_25 (d := d + 6) (n := n) (w := w) (g := g) (h := h) (y := y) (M := bgM M) hk hcc hc hC cc 0 (by omega)
  rw [show ((cntP (ptP k) C 0 : Nat) : Int) = 0 from rfl, show ((0 : Nat) : Int) = 0 from rfl] at k0
  obtain ⟨h2, t, v4, y1, y2, k1⟩ := pl_86 (d := d + 4) (n := n) (g := g) (h := h) (y := y) (M := bgM M) (X := X) (l2 := iI (cntP (ptP k) C cc)) hy hk hcc hc hC hCo hF hR cc 0 (by omega) n w h (Nat.le_refl _) (fun _ _ => rfl) none
  have em : alM (bgM M) (nB (psN C k 0 (m, F)).1 (psN C k 0 (m, F)).2 X) = bgM M := by
    show alM (bgM M) (nB m F X) = bgM M
    rw [← hA]
    rfl
  rw [em, show ((0 : Nat) : Int) = 0 from rfl] at k1
  have m2 := md_0 (h := h2) (y := y) (M := alM (bgM M) (nB (psN C k cc (m, F)).1 (psN C k cc (m, F)).2 X))
  have dn := r_done (d := d + 1) (n := n + t) (w := w + 5 * t) (g := g) (h := h2) (y := y) (M := alM (bgM M) (nB (psN C k cc (m, F)).1 (psN C k cc (m, F)).2 X)) (t := iI (cntP (ptP k) C cc)) hu hbu hU
  refine ⟨t, by have : pcN C k (m, F) 0 = 0 := rfl; omega, ?_⟩
  have hL : L (d + 8) 215 0 [some (.ref y), some (.int (iI k)), none, none, none] [] (mdW h y M, n, w, g) = some (.inl (some (.int (iI (cntP (ptP k) C cc)))), (mdW h2 y (dnM (alM (bgM M) (nB (psN C k cc (m, F)).1 (psN C k cc (m, F)).2 X)) uu), n + t, w + 5 * t, g)) := by
    simp (disch := omega) only [r215_0, r215_1, r215_4, r215_5, r215_6, r215_9, r215_12, r215_15, r215_16, r215_17, r215_20, r215_21, r215_22, r215_23, r215_24, md_0, bg, s_mis, q1, k0, kl_n, kl_i, kl_r, kl_z, kl_l, kl_d, catS_0, catS_c, cat_i, cat_l, cat_d, cat_r, cat_n, kC_r, kC_x, Option.bind_some, Option.toList_some, Option.toList_none, List.cons_append, List.nil_append, gB0, gB1, gB2, gB3, gB4, rvB, nI_iI, i0, i1, l0_, wr_s, aup_s, and_true, true_and, and_self, eq_self, if_true, if_false, Nat.zero_le, Nat.reduceAdd, Nat.reduceLeDiff, gN_I, gN_L, gN_P, bI_0, bI_ok, z0, z1, Bool.true_eq, Bool.false_eq_true, not_true_eq_false, not_false_eq_true]
    simp (disch := omega) only [r215_65, r215_66, r215_69, r215_70, r215_71, r215_72, r215_73, r215_75, r215_78, r215_79, r215_80, r215_83, r215_84, r215_85, m0, m1, g0, iI_add, iI_le, q2, k1, kl_n, kl_i, kl_r, kl_z, kl_l, kl_d, catS_0, catS_c, cat_i, cat_l, cat_d, cat_r, cat_n, kC_r, kC_x, Option.bind_some, Option.toList_some, Option.toList_none, List.cons_append, List.nil_append, gB0, gB1, gB2, gB3, gB4, rvB, nI_iI, i0, i1, l0_, wr_s, aup_s, and_true, true_and, and_self, eq_self, if_true, if_false, Nat.zero_le, Nat.reduceAdd, Nat.reduceLeDiff, gN_I, gN_L, gN_P, bI_0, bI_ok, z0, z1, Bool.true_eq, Bool.false_eq_true, not_true_eq_false, not_false_eq_true]
    simp (disch := omega) only [r215_143, r215_144, r215_145, r215_148, m2, dn, kl_n, kl_i, kl_r, kl_z, kl_l, kl_d, catS_0, catS_c, cat_i, cat_l, cat_d, cat_r, cat_n, kC_r, kC_x, Option.bind_some, Option.toList_some, Option.toList_none, List.cons_append, List.nil_append, gB0, gB1, gB2, gB3, gB4, rvB, nI_iI, i0, i1, l0_, wr_s, aup_s, and_true, true_and, and_self, eq_self, if_true, if_false, Nat.zero_le, Nat.reduceAdd, Nat.reduceLeDiff, gN_I, gN_L, gN_P, bI_0, bI_ok, z0, z1, Bool.true_eq, Bool.false_eq_true, not_true_eq_false, not_false_eq_true]
  rw [e215, hL, fin_fr hy y1]
theorem r_paste_1 {k : Int} (hy : y + 531 ≤ n) (b1 : -2147483648 ≤ k ∧ k < 2147483648) (hc : ¬ (0 ≤ k ∧ k ≤ 9599)) : aE (d + 9) 215 [.ref y, .int (iI k)] (mdW h y M, n, w, g) = some (.inl (some (.int (iI 0))), (mdW h y (rfM 1 (bgM M)), n, w, g)) := by
  have bg := r_begin (d := d + 7) (n := n) (w := w) (g := g) (h := h) (y := y) (M := M)
  have m0 := md_0 (h := h) (y := y) (M := bgM M)
  have rf := r_refuse (d := d + 7) (h := h) (r := (n, w, g)) (y := y) (M := bgM M) (k := 1)
  have hL : L (d + 8) 215 0 [some (.ref y), some (.int (iI k)), none, none, none] [] (mdW h y M, n, w, g) = some (.inl (some (.int (iI 0))), (mdW h y (rfM 1 (bgM M)), n, w, g)) := by
    simp (disch := omega) only [r215_0, r215_1, r215_4, r215_5, r215_6, r215_9, r215_12, r215_15, r215_16, r215_17, r215_20, md_0, bg, m0, s_mis, hc, rf, kl_n, kl_i, kl_r, kl_z, kl_l, kl_d, catS_0, catS_c, cat_i, cat_l, cat_d, cat_r, cat_n, kC_r, kC_x, Option.bind_some, Option.toList_some, Option.toList_none, List.cons_append, List.nil_append, gB0, gB1, gB2, gB3, gB4, rvB, nI_iI, i0, i1, l0_, wr_s, aup_s, and_true, true_and, and_self, eq_self, if_true, if_false, Nat.zero_le, Nat.reduceAdd, Nat.reduceLeDiff, gN_I, gN_L, gN_P, bI_0, bI_ok, z0, z1, Bool.true_eq, Bool.false_eq_true, not_true_eq_false, not_false_eq_true]
    rfl
  rw [e215, hL, fin_mm hy]
theorem r_paste_2 {k cc m : Nat} {C F : Nat → Nat} {X : Nat → Int32} (hy : y + 531 ≤ n) (hA : M.2.1 = nB m F X) (hm : m ≤ 60) (hk : k ≤ 9599) (hcc : cc ≤ 60) (hc : M.1.2.2.2.2.1 = iI cc) (hC : clpOk M.2.2.2.2.2.2.1 (cc, C)) (hR : ¬ m + cntP (ptP k) C cc ≤ 60) :
    aE (d + 9) 215 [.ref y, .int (iI k)] (mdW h y M, n, w, g) = some (.inl (some (.int (iI 0))), (mdW h y (rfM 2 (bgM M)), n, w, g)) := by
  have q1 : (0 : Int) ≤ k ∧ (k : Int) ≤ 9599 := by omega
  have g0 : gI (some (aI .int 385 (nB m F X))) (iI 0) = some (iI m) := gI_0 (by omega)
  have cl := cntP_le (ptP k) C cc
  have q2 : ¬ (m : Int) + ((cntP (ptP k) C cc : Nat) : Int) ≤ 60 := by omega
  have bg := r_begin (d := d + 7) (n := n) (w := w) (g := g) (h := h) (y := y) (M := M)
  have m0 := md_0 (h := h) (y := y) (M := bgM M)
  have m1 : mdW h y (bgM M) (y + 1) = some (aI .int 385 (nB m F X)) := by rw [md_1]; exact congrArg (fun z => some (aI .int 385 z)) hA
  have k0 := pp_25 (d := d + 6) (n := n) (w := w) (g := g) (h := h) (y := y) (M := bgM M) hk hcc hc hC cc 0 (by omega)
  rw [show ((cntP (ptP k) C 0 : Nat) : Int) = 0 from rfl, show ((0 : Nat) : Int) = 0 from rfl] at k0
  have rf := r_refuse (d := d + 7) (h := h) (r := (n, w, g)) (y := y) (M := bgM M) (k := 2)
  have hL : L (d + 8) 215 0 [some (.ref y), some (.int (iI k)), none, none, none] [] (mdW h y M, n, w, g) = some (.inl (some (.int (iI 0))), (mdW h y (rfM 2 (bgM M)), n, w, g)) := by
    simp (disch := omega) only [r215_0, r215_1, r215_4, r215_5, r215_6, r215_9, r215_12, r215_15, r215_16, r215_17, r215_20, r215_21, r215_22, r215_23, r215_24, md_0, bg, s_mis, q1, k0, kl_n, kl_i, kl_r, kl_z, kl_l, kl_d, catS_0, catS_c, cat_i, cat_l, cat_d, cat_r, cat_n, kC_r, kC_x, Option.bind_some, Option.toList_some, Option.toList_none, List.cons_append, List.nil_append, gB0, gB1, gB2, gB3, gB4, rvB, nI_iI, i0, i1, l0_, wr_s, aup_s, and_true, true_and, and_self, eq_self, if_true, if_false, Nat.zero_le, Nat.reduceAdd, Nat.reduceLeDiff, gN_I, gN_L, gN_P, bI_0, bI_ok, z0, z1, Bool.true_eq, Bool.false_eq_true, not_true_eq_false, not_false_eq_true]
    simp (disch := omega) only [r215_65, r215_66, r215_69, r215_70, r215_71, r215_72, r215_73, r215_75, r215_78, r215_79, r215_80, r215_83, m0, m1, g0, iI_add, iI_le, q2, rf, kl_n, kl_i, kl_r, kl_z, kl_l, kl_d, catS_0, catS_c, cat_i, cat_l, cat_d, cat_r, cat_n, kC_r, kC_x, Option.bind_some, Option.toList_some, Option.toList_none, List.cons_append, List.nil_append, gB0, gB1, gB2, gB3, gB4, rvB, nI_iI, i0, i1, l0_, wr_s, aup_s, and_true, true_and, and_self, eq_self, if_true, if_false, Nat.zero_le, Nat.reduceAdd, Nat.reduceLeDiff, gN_I, gN_L, gN_P, bI_0, bI_ok, z0, z1, Bool.true_eq, Bool.false_eq_true, not_true_eq_false, not_false_eq_true]
    rfl
  rw [e215, hL, fin_mm hy]
end
