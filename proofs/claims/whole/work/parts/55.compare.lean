/-! ===== two notes compared ===== -/
section
variable {d n w : Nat} {g : Nat × Nat} {h : aHf}
theorem cp_it {p q N K a b : Nat} {c e : Nat} {f f' : Nat → Int32} (hp : h p = some (aI .int N f)) (hq : h q = some (aI .int K f')) {Z : Nat → Int32} (hz : h n = some (aI .int 5 Z)) (hZ : ∀ j, j < 5 → Z j = iI (bO j)) (ha : a + 5 ≤ N ∧ N ≤ 1000) (hb : b + 5 ≤ K ∧ K ≤ 1000)
    (fa : ∀ j, j < 5 → f (a + j) = iI (cFact c j)) (fb : ∀ j, j < 5 → f' (b + j) = iI (cFact e j)) (hc : cOk c) (he : cOk e) {r : Nat × Nat × Nat × Nat} :
    ∀ m j : Nat, j + m = 5 → (∀ i, i < j → cFact c (bO i) = cFact e (bO i)) → ∀ l4 l8 : Option Value, (l4 = some (.ref n) ∧ True) → (∃ z : Int32, l8 = some (.int z)) ∨ l8 = none →
    L d 200 37 [some (.ref p), some (.int (iI a)), some (.ref q), some (.int (iI b)), l4, some (.ref n), some (.int (iI 5)), some (.int (iI j)), l8] [] (h, r) = some (.inl (some (.int (iI (cmpC c e)))), (h, r)) := by
  intro m
  induction m with
  | zero =>
    intro j hj hi l4 l8 h4 h8
    obtain rfl : j = 5 := by omega
    have c1 : (5 : Int) ≤ ((5 : Nat) : Int) := by omega
    have ec := cmp_eq hc he hi
    subst ec
    have e0 : cmpC c c = 0 := by
      unfold cmpC
      rw [if_neg (by omega), if_neg (by omega)]
    rw [e0, r200_37]
    simp (disch := omega) only [r200_0, r200_1, r200_3i, r200_3, r200_4, r200_5, r200_6, r200_7i, r200_7, r200_8, r200_9, r200_10, r200_11i, r200_11, r200_12, r200_13, r200_14, r200_15i, r200_15, r200_16, r200_17, r200_18, r200_19i, r200_19, r200_20, r200_21, r200_22, r200_23, r200_25, r200_27, r200_29, r200_31, r200_32, r200_34, r200_35, r200_39, r200_41, r200_44, r200_46, r200_48, r200_49, r200_51, r200_52, r200_53, r200_55, r200_56, r200_57, r200_58, r200_59, r200_61, r200_62, r200_63, r200_66, r200_67, r200_68, r200_70, r200_71, r200_72, r200_73, r200_74, r200_76, r200_77, r200_78, r200_81, r200_82, r200_85, r200_86, r200_87, r200_90, r200_93, r200_94, iI_le, c1, kl_n, kl_i, kl_r, kl_z, kl_l, kl_d, catS_0, catS_c, cat_i, cat_l, cat_d, cat_r, cat_n, kC_r, kC_x, Option.bind_some, Option.toList_some, Option.toList_none, List.cons_append, List.nil_append, gB0, gB1, gB2, gB3, gB4, rvB, nI_iI, i0, i1, l0_, wr_s, aup_s, and_true, true_and, and_self, eq_self, if_true, if_false, Nat.zero_le, Nat.reduceAdd, Nat.reduceLeDiff, gN_I, gN_L, gN_P, bI_0, bI_ok, z0, z1, Bool.true_eq, Bool.false_eq_true, not_true_eq_false, not_false_eq_true]
  | succ m ih =>
    intro j hj hi l4 l8 h4 h8
    have c1 : ¬ (5 : Int) ≤ (j : Int) := by omega
    have e1 : (j : Int) + 1 = ((j + 1 : Nat) : Int) := by omega
    have b4 := bO_b j
    have gz : gI (some (aI .int 5 Z)) (iI j) = some (iI (bO j)) := by
      rw [gI_I (by omega) (by omega) (by omega), Int.toNat_natCast, hZ j (by omega)]
    have ga : gI (some (aI .int N f)) (iI ((a : Int) + bO j)) = some (iI (cFact c (bO j))) := by
      rw [gI_I (by omega) (by omega) (by omega), show ((a : Int) + bO j).toNat = a + bO j by omega, fa _ (by omega)]
    have gb : gI (some (aI .int K f')) (iI ((b : Int) + bO j)) = some (iI (cFact e (bO j))) := by
      rw [gI_I (by omega) (by omega) (by omega), show ((b : Int) + bO j).toNat = b + bO j by omega, fb _ (by omega)]
    have v1 := cFact_lt hc (bO j)
    have v2 := cFact_lt he (bO j)
    obtain ⟨h4, _⟩ := h4
    subst h4
    have k8 : klL (some (.ref n)) = some (.ref n) := rfl
    rw [r200_37]
    by_cases q1 : cFact c (bO j) = cFact e (bO j)
    · have q2 : (cFact c (bO j) : Int) = (cFact e (bO j) : Int) := by omega
      have h9 := fun l8 h8 => ih (j + 1) (by omega) (fun i hi' => by
        by_cases e : i = j
        · rw [e]; exact q1
        · exact hi i (by omega)) (some (.ref n)) l8 ⟨rfl, trivial⟩ h8
      have h10 := h9 (some (.int (iI (bO j)))) (Or.inl ⟨_, rfl⟩)
      simp (disch := omega) only [r200_0, r200_1, r200_3i, r200_3, r200_4, r200_5, r200_6, r200_7i, r200_7, r200_8, r200_9, r200_10, r200_11i, r200_11, r200_12, r200_13, r200_14, r200_15i, r200_15, r200_16, r200_17, r200_18, r200_19i, r200_19, r200_20, r200_21, r200_22, r200_23, r200_25, r200_27, r200_29, r200_31, r200_32, r200_34, r200_35, r200_39, r200_41, r200_44, r200_46, r200_48, r200_49, r200_51, r200_52, r200_53, r200_55, r200_56, r200_57, r200_58, r200_59, r200_61, r200_62, r200_63, r200_66, r200_67, r200_68, r200_70, r200_71, r200_72, r200_73, r200_74, r200_76, r200_77, r200_78, r200_81, r200_82, r200_85, r200_86, r200_87, r200_90, r200_93, r200_94, iI_le, c1, hz, gz, hp, hq, iI_add, ga, gb, iI_eq, q2, e1, h10, kl_n, kl_i, kl_r, kl_z, kl_l, kl_d, catS_0, catS_c, cat_i, cat_l, cat_d, cat_r, cat_n, kC_r, kC_x, Option.bind_some, Option.toList_some, Option.toList_none, List.cons_append, List.nil_append, gB0, gB1, gB2, gB3, gB4, rvB, nI_iI, i0, i1, l0_, wr_s, aup_s, and_true, true_and, and_self, eq_self, if_true, if_false, Nat.zero_le, Nat.reduceAdd, Nat.reduceLeDiff, gN_I, gN_L, gN_P, bI_0, bI_ok, z0, z1, Bool.true_eq, Bool.false_eq_true, not_true_eq_false, not_false_eq_true]
    · have q2 : ¬ (cFact c (bO j) : Int) = (cFact e (bO j) : Int) := by omega
      by_cases q3 : cFact c (bO j) < cFact e (bO j)
      · have q4 : ¬ (cFact e (bO j) : Int) ≤ (cFact c (bO j) : Int) := by omega
        have lt := cmp_lt hc he j (by omega) hi q3
        have e0 : cmpC c e = -1 := if_pos lt
        rw [e0]
        simp (disch := omega) only [r200_0, r200_1, r200_3i, r200_3, r200_4, r200_5, r200_6, r200_7i, r200_7, r200_8, r200_9, r200_10, r200_11i, r200_11, r200_12, r200_13, r200_14, r200_15i, r200_15, r200_16, r200_17, r200_18, r200_19i, r200_19, r200_20, r200_21, r200_22, r200_23, r200_25, r200_27, r200_29, r200_31, r200_32, r200_34, r200_35, r200_39, r200_41, r200_44, r200_46, r200_48, r200_49, r200_51, r200_52, r200_53, r200_55, r200_56, r200_57, r200_58, r200_59, r200_61, r200_62, r200_63, r200_66, r200_67, r200_68, r200_70, r200_71, r200_72, r200_73, r200_74, r200_76, r200_77, r200_78, r200_81, r200_82, r200_85, r200_86, r200_87, r200_90, r200_93, r200_94, iI_le, c1, hz, gz, hp, hq, iI_add, ga, gb, iI_eq, q2, q4, kl_n, kl_i, kl_r, kl_z, kl_l, kl_d, catS_0, catS_c, cat_i, cat_l, cat_d, cat_r, cat_n, kC_r, kC_x, Option.bind_some, Option.toList_some, Option.toList_none, List.cons_append, List.nil_append, gB0, gB1, gB2, gB3, gB4, rvB, nI_iI, i0, i1, l0_, wr_s, aup_s, and_true, true_and, and_self, eq_self, if_true, if_false, Nat.zero_le, Nat.reduceAdd, Nat.reduceLeDiff, gN_I, gN_L, gN_P, bI_0, bI_ok, z0, z1, Bool.true_eq, Bool.false_eq_true, not_true_eq_false, not_false_eq_true]
      · have q4 : (cFact e (bO j) : Int) ≤ (cFact c (bO j) : Int) := by omega
        have lt := cmp_lt he hc j (by omega) (fun i hi' => (hi i hi').symm) (by omega)
        have e0 : cmpC c e = 1 := by
          unfold cmpC
          rw [if_neg (by omega), if_pos lt]
        rw [e0]
        simp (disch := omega) only [r200_0, r200_1, r200_3i, r200_3, r200_4, r200_5, r200_6, r200_7i, r200_7, r200_8, r200_9, r200_10, r200_11i, r200_11, r200_12, r200_13, r200_14, r200_15i, r200_15, r200_16, r200_17, r200_18, r200_19i, r200_19, r200_20, r200_21, r200_22, r200_23, r200_25, r200_27, r200_29, r200_31, r200_32, r200_34, r200_35, r200_39, r200_41, r200_44, r200_46, r200_48, r200_49, r200_51, r200_52, r200_53, r200_55, r200_56, r200_57, r200_58, r200_59, r200_61, r200_62, r200_63, r200_66, r200_67, r200_68, r200_70, r200_71, r200_72, r200_73, r200_74, r200_76, r200_77, r200_78, r200_81, r200_82, r200_85, r200_86, r200_87, r200_90, r200_93, r200_94, iI_le, c1, hz, gz, hp, hq, iI_add, ga, gb, iI_eq, q2, q4, kl_n, kl_i, kl_r, kl_z, kl_l, kl_d, catS_0, catS_c, cat_i, cat_l, cat_d, cat_r, cat_n, kC_r, kC_x, Option.bind_some, Option.toList_some, Option.toList_none, List.cons_append, List.nil_append, gB0, gB1, gB2, gB3, gB4, rvB, nI_iI, i0, i1, l0_, wr_s, aup_s, and_true, true_and, and_self, eq_self, if_true, if_false, Nat.zero_le, Nat.reduceAdd, Nat.reduceLeDiff, gN_I, gN_L, gN_P, bI_0, bI_ok, z0, z1, Bool.true_eq, Bool.false_eq_true, not_true_eq_false, not_false_eq_true]
theorem fin_2 {h : aHf} {n n' : Nat} {r s : Nat × Nat × Nat} {v : aC} {o : aO} : aFin true (h, n, r) (some (o, (aup h n v, n', s))) = some (o, (h, n', s)) := by
  refine congrArg some (congrArg (Prod.mk _) (congrArg (fun z => (z, n', s)) ?_))
  funext q
  show (if q < n then aup h n v q else h q) = h q
  by_cases e : q < n
  · rw [if_pos e, aup_o (by omega)]
  · rw [if_neg e]
theorem by_up : upd (upd (upd (upd (upd (fun _ => iI 0) 0 (iI 0)) 1 (iI 1)) 2 (iI 3)) 3 (iI 2)) 4 (iI 4) = fun i => if i < 5 then iI (bO i) else iI 0 := by
  funext i
  unfold upd
  by_cases e : i < 5
  · obtain rfl | rfl | rfl | rfl | rfl : i = 0 ∨ i = 1 ∨ i = 2 ∨ i = 3 ∨ i = 4 := by omega
    all_goals rfl
  · rw [if_neg e, if_neg (by omega), if_neg (by omega), if_neg (by omega), if_neg (by omega), if_neg (by omega)]
theorem s_compare {p q N K a b : Nat} {c e : Nat} {f f' : Nat → Int32} (hp : h p = some (aI .int N f)) (hq : h q = some (aI .int K f')) (np : p < n) (nq : q < n) (ha : a + 5 ≤ N ∧ N ≤ 1000) (hb : b + 5 ≤ K ∧ K ≤ 1000)
    (fa : ∀ j, j < 5 → f (a + j) = iI (cFact c j)) (fb : ∀ j, j < 5 → f' (b + j) = iI (cFact e j)) (hc : cOk c) (he : cOk e) :
    aE (d + 1) 200 [.ref p, .int (iI a), .ref q, .int (iI b)] (h, n, w, g) = some (.inl (some (.int (iI (cmpC c e)))), (h, n + 1, w + 5, g)) := by
  have e1 : (iI 5).toNatClampNeg = 5 := by decide
  have e2 : ¬ (iI 5 < iI 0 ∨ 60000000 < 5) := by decide
  have hs : ∀ (F : Nat → Int32) (j : Nat) (v : Int), j < 5 → sI (some (aI .int 5 F)) (iI (j : Int)) (iI v) = some (aI .int 5 (upd F j (iI v))) := fun F j v hj => by
    rw [sI_I (by omega) (by omega) (by omega), Int.toNat_natCast]
  have hs0 := fun F v => hs F 0 v (by omega)
  have hs1 := fun F v => hs F 1 v (by omega)
  have hs2 := fun F v => hs F 2 v (by omega)
  have hs3 := fun F v => hs F 3 v (by omega)
  have hs4 := fun F v => hs F 4 v (by omega)
  rw [show ((0 : Nat) : Int) = 0 from rfl] at hs0
  rw [show ((1 : Nat) : Int) = 1 from rfl] at hs1
  rw [show ((2 : Nat) : Int) = 2 from rfl] at hs2
  rw [show ((3 : Nat) : Int) = 3 from rfl] at hs3
  rw [show ((4 : Nat) : Int) = 4 from rfl] at hs4
  have hl := cp_it (d := d) (n := n) (h := aup h n (aI .int 5 (fun i => if i < 5 then iI (bO i) else iI 0))) (p := p) (q := q) (a := a) (b := b) (r := (n + 1, w + 5, g)) (by rw [aup_o (by omega)]; exact hp) (by rw [aup_o (by omega)]; exact hq) aup_s (fun j hj => if_pos hj) ha hb fa fb hc he 5 0 (by omega) (fun i hi => by omega) (some (.ref n)) none ⟨rfl, trivial⟩ (Or.inr rfl)
  rw [show ((0 : Nat) : Int) = 0 from rfl] at hl
  rw [e200]
  have hA : L d 200 0 [some (.ref p), some (.int (iI a)), some (.ref q), some (.int (iI b)), none, none, none, none, none] [] (h, n, w, g) =
      some (.inl (some (.int (iI (cmpC c e)))), (aup h n (aI .int 5 (fun i => if i < 5 then iI (bO i) else iI 0)), n + 1, w + 5, g)) := by
    simp (disch := omega) only [r200_0, r200_1, r200_3i, r200_3, r200_4, r200_5, r200_6, r200_7i, r200_7, r200_8, r200_9, r200_10, r200_11i, r200_11, r200_12, r200_13, r200_14, r200_15i, r200_15, r200_16, r200_17, r200_18, r200_19i, r200_19, r200_20, r200_21, r200_22, r200_23, r200_25, r200_27, r200_29, r200_31, r200_32, r200_34, r200_35, e1, e2, aup_s, hs0, hs1, hs2, hs3, hs4, aup_2, by_up, gN_I, hl, kl_n, kl_i, kl_r, kl_z, kl_l, kl_d, catS_0, catS_c, cat_i, cat_l, cat_d, cat_r, cat_n, kC_r, kC_x, Option.bind_some, Option.toList_some, Option.toList_none, List.cons_append, List.nil_append, gB0, gB1, gB2, gB3, gB4, rvB, nI_iI, i0, i1, l0_, wr_s, aup_s, and_true, true_and, and_self, eq_self, if_true, if_false, Nat.zero_le, Nat.reduceAdd, Nat.reduceLeDiff, gN_I, gN_L, gN_P, bI_0, bI_ok, z0, z1, Bool.true_eq, Bool.false_eq_true, not_true_eq_false, not_false_eq_true]
    exact hl
  rw [hA, fin_2]
end
