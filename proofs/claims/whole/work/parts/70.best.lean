/-! ===== the reference: the best step ===== -/
def bsR (C : Nat → Nat) : Nat → Nat
  | 0 => 96
  | k + 1 => if C (stN k) < C (bsR C k) then stN k else bsR C k
theorem bs_fs {C : Nat → Nat} (hC : ∀ s, C s ≤ 60) : ∀ k, fsR C (k + 1) = (bsR C (k + 1), C (bsR C (k + 1)))
  | 0 => by
    have h1 := hC 96
    have e1 : fsR C (0 + 1) = (96, C 96) := if_pos (show C 96 < 61 by omega)
    have e2 : bsR C (0 + 1) = 96 := if_neg (show ¬ C 96 < C 96 by omega)
    rw [e1, e2]
  | k + 1 => by
    have ih := bs_fs hC k
    show (if C (stN (k + 1)) < (fsR C (k + 1)).2 then (stN (k + 1), C (stN (k + 1))) else fsR C (k + 1)) = _
    rw [ih]
    show _ = ((if C (stN (k + 1)) < C (bsR C (k + 1)) then stN (k + 1) else bsR C (k + 1)), C (if C (stN (k + 1)) < C (bsR C (k + 1)) then stN (k + 1) else bsR C (k + 1)))
    by_cases q : C (stN (k + 1)) < C (bsR C (k + 1))
    · rw [if_pos q, if_pos q]
    · rw [if_neg q, if_neg q]
theorem bsR_b (C : Nat → Nat) : ∀ k, 1 ≤ bsR C k ∧ bsR C k ≤ 384
  | 0 => ⟨by show 1 ≤ 96; omega, by show 96 ≤ 384; omega⟩
  | k + 1 => by
    unfold bsR
    split
    · exact stN_b k
    · exact bsR_b C k
theorem st_up : upd (upd (upd (upd (upd (upd (upd (upd (fun _ => iI 0) 0 (iI 96)) 1 (iI 48)) 2 (iI 32)) 3 (iI 24)) 4 (iI 16)) 5 (iI 12)) 6 (iI 8)) 7 (iI 6) = fun i => if i < 8 then iI (stN i) else iI 0 := by
  funext i
  unfold upd
  by_cases e : i < 8
  · obtain rfl | rfl | rfl | rfl | rfl | rfl | rfl | rfl : i = 0 ∨ i = 1 ∨ i = 2 ∨ i = 3 ∨ i = 4 ∨ i = 5 ∨ i = 6 ∨ i = 7 := by omega
    all_goals rfl
  · rw [if_neg e, if_neg (by omega), if_neg (by omega), if_neg (by omega), if_neg (by omega), if_neg (by omega), if_neg (by omega), if_neg (by omega), if_neg (by omega)]
section
variable {d n w : Nat} {g : Nat × Nat} {h : aHf} {r : Nat × Nat × Nat × Nat} {y : Nat} {M : Md} {m : Nat} {F : Nat → Nat} {X : Nat → Int32}
theorem bs_loop {t v u : Int} {q : Nat} {Z : Nat → Int32} (hq : h q = some (aI .int 8 Z)) (hZ : ∀ j, j < 8 → Z j = iI (stN j)) (py : y + 531 ≤ q) (hA : M.2.1 = nB m F X) (hm : m ≤ 60) (hF : ∀ i, cOk (F i)) (hV : ntOk F m) (hr : rgOk t v u) : ∀ s i : Nat, i + s = 8 → ∀ l9 : Option Value,
    L (d + 3) 257 66 [some (.ref y), some (.int (iI t)), some (.int (iI v)), some (.int (iI u)), some (.ref q), some (.int (iI (bsR (ofN t v u F m) i))), some (.ref q), some (.int (iI 8)), some (.int (iI i)), l9] [] (mdW h y M, r) = some (.inl (some (.int (iI (bsR (ofN t v u F m) 8)))), (mdW h y M, r)) := by
  have hC : ∀ s, ofN t v u F m s ≤ 60 := fun s => Nat.le_trans (cntP_le _ _ _) hm
  have hq2 : mdW h y M q = some (aI .int 8 Z) := by rw [md_out py]; exact hq
  intro s
  induction s with
  | zero =>
    intro i hi l9
    obtain rfl : i = 8 := by omega
    have c1 : (8 : Int) ≤ ((8 : Nat) : Int) := by omega
    rw [r257_66]
    simp (disch := omega) only [r257_0, r257_2, r257_4i, r257_4, r257_5, r257_6, r257_8, r257_9i, r257_9, r257_10, r257_11, r257_13, r257_14i, r257_14, r257_15, r257_16, r257_18, r257_19i, r257_19, r257_20, r257_21, r257_23, r257_24i, r257_24, r257_25, r257_26, r257_28, r257_29i, r257_29, r257_30, r257_31, r257_33, r257_34i, r257_34, r257_35, r257_37, r257_39, r257_40i, r257_40, r257_41, r257_43, r257_45, r257_46, r257_48, r257_50, r257_51, r257_52, r257_54, r257_56, r257_58, r257_60, r257_61, r257_63, r257_64, r257_68, r257_70, r257_73, r257_75, r257_77, r257_78, r257_80, r257_81, r257_82, r257_83, r257_84, r257_86, r257_89, r257_90, r257_91, r257_92, r257_93, r257_95, r257_98, r257_101, r257_103, r257_105, r257_108, r257_111, r257_113, iI_le, c1, kl_n, kl_i, kl_r, kl_z, kl_l, kl_d, catS_0, catS_c, cat_i, cat_l, cat_d, cat_r, cat_n, kC_r, kC_x, Option.bind_some, Option.toList_some, Option.toList_none, List.cons_append, List.nil_append, gB0, gB1, gB2, gB3, gB4, rvB, nI_iI, i0, i1, l0_, wr_s, aup_s, and_true, true_and, and_self, eq_self, if_true, if_false, Nat.zero_le, Nat.reduceAdd, Nat.reduceLeDiff, gN_I, gN_L, gN_P, bI_0, bI_ok, z0, z1, Bool.true_eq, Bool.false_eq_true, not_true_eq_false, not_false_eq_true]
  | succ s ih =>
    intro i hi l9
    have c1 : ¬ (8 : Int) ≤ (i : Int) := by omega
    have e1 : (i : Int) + 1 = ((i + 1 : Nat) : Int) := by omega
    have b1 := stN_b i
    have b2 := bsR_b (ofN t v u F m) i
    have c2 := hC (stN i)
    have c3 := hC (bsR (ofN t v u F m) i)
    have gz : gI (some (aI .int 8 Z)) (iI (i : Int)) = some (iI (stN i)) := by rw [gI_N (by omega) (by omega), hZ i (by omega)]
    have m1 := r_moving (d := d) (h := h) (r := r) (y := y) hA hm hF hV hr b1
    have m2 := r_moving (d := d) (h := h) (r := r) (y := y) hA hm hF hV hr b2
    have h9 := fun l9 => ih (i + 1) (by omega) l9
    rw [r257_66]
    by_cases p : ofN t v u F m (stN i) < ofN t v u F m (bsR (ofN t v u F m) i)
    · have p2 : ¬ (ofN t v u F m (bsR (ofN t v u F m) i) : Int) ≤ (ofN t v u F m (stN i) : Int) := by omega
      have e4 : bsR (ofN t v u F m) (i + 1) = stN i := if_pos p
      rw [e4] at h9
      simp (disch := omega) only [r257_0, r257_2, r257_4i, r257_4, r257_5, r257_6, r257_8, r257_9i, r257_9, r257_10, r257_11, r257_13, r257_14i, r257_14, r257_15, r257_16, r257_18, r257_19i, r257_19, r257_20, r257_21, r257_23, r257_24i, r257_24, r257_25, r257_26, r257_28, r257_29i, r257_29, r257_30, r257_31, r257_33, r257_34i, r257_34, r257_35, r257_37, r257_39, r257_40i, r257_40, r257_41, r257_43, r257_45, r257_46, r257_48, r257_50, r257_51, r257_52, r257_54, r257_56, r257_58, r257_60, r257_61, r257_63, r257_64, r257_68, r257_70, r257_73, r257_75, r257_77, r257_78, r257_80, r257_81, r257_82, r257_83, r257_84, r257_86, r257_89, r257_90, r257_91, r257_92, r257_93, r257_95, r257_98, r257_101, r257_103, r257_105, r257_108, r257_111, r257_113, iI_le, c1, hq2, gz, md_0, m1, m2, p2, iI_add, e1, h9, kl_n, kl_i, kl_r, kl_z, kl_l, kl_d, catS_0, catS_c, cat_i, cat_l, cat_d, cat_r, cat_n, kC_r, kC_x, Option.bind_some, Option.toList_some, Option.toList_none, List.cons_append, List.nil_append, gB0, gB1, gB2, gB3, gB4, rvB, nI_iI, i0, i1, l0_, wr_s, aup_s, and_true, true_and, and_self, eq_self, if_true, if_false, Nat.zero_le, Nat.reduceAdd, Nat.reduceLeDiff, gN_I, gN_L, gN_P, bI_0, bI_ok, z0, z1, Bool.true_eq, Bool.false_eq_true, not_true_eq_false, not_false_eq_true]
    · have p2 : (ofN t v u F m (bsR (ofN t v u F m) i) : Int) ≤ (ofN t v u F m (stN i) : Int) := by omega
      have e4 : bsR (ofN t v u F m) (i + 1) = bsR (ofN t v u F m) i := if_neg p
      rw [e4] at h9
      simp (disch := omega) only [r257_0, r257_2, r257_4i, r257_4, r257_5, r257_6, r257_8, r257_9i, r257_9, r257_10, r257_11, r257_13, r257_14i, r257_14, r257_15, r257_16, r257_18, r257_19i, r257_19, r257_20, r257_21, r257_23, r257_24i, r257_24, r257_25, r257_26, r257_28, r257_29i, r257_29, r257_30, r257_31, r257_33, r257_34i, r257_34, r257_35, r257_37, r257_39, r257_40i, r257_40, r257_41, r257_43, r257_45, r257_46, r257_48, r257_50, r257_51, r257_52, r257_54, r257_56, r257_58, r257_60, r257_61, r257_63, r257_64, r257_68, r257_70, r257_73, r257_75, r257_77, r257_78, r257_80, r257_81, r257_82, r257_83, r257_84, r257_86, r257_89, r257_90, r257_91, r257_92, r257_93, r257_95, r257_98, r257_101, r257_103, r257_105, r257_108, r257_111, r257_113, iI_le, c1, hq2, gz, md_0, m1, m2, p2, iI_add, e1, h9, kl_n, kl_i, kl_r, kl_z, kl_l, kl_d, catS_0, catS_c, cat_i, cat_l, cat_d, cat_r, cat_n, kC_r, kC_x, Option.bind_some, Option.toList_some, Option.toList_none, List.cons_append, List.nil_append, gB0, gB1, gB2, gB3, gB4, rvB, nI_iI, i0, i1, l0_, wr_s, aup_s, and_true, true_and, and_self, eq_self, if_true, if_false, Nat.zero_le, Nat.reduceAdd, Nat.reduceLeDiff, gN_I, gN_L, gN_P, bI_0, bI_ok, z0, z1, Bool.true_eq, Bool.false_eq_true, not_true_eq_false, not_false_eq_true]
theorem r_bestNow {t v u : Int} (hy : y + 531 ≤ n) (hA : M.2.1 = nB m F X) (hm : m ≤ 60) (hF : ∀ i, cOk (F i)) (hV : ntOk F m) (hr : rgOk t v u) : aE (d + 4) 257 [.ref y, .int (iI t), .int (iI v), .int (iI u)] (mdW h y M, n, w, g) =
    some (.inl (some (.int (iI (fsR (ofN t v u F m) 8).1))), (mdW h y M, n + 1, w + 8, g)) := by
  have e1 : (iI 8).toNatClampNeg = 8 := by decide
  have e2 : ¬ (iI 8 < iI 0 ∨ 60000000 < 8) := by decide
  have hC : ∀ s, ofN t v u F m s ≤ 60 := fun s => Nat.le_trans (cntP_le _ _ _) hm
  have hs : ∀ (F : Nat → Int32) (j : Nat) (v : Int), j < 8 → sI (some (aI .int 8 F)) (iI (j : Int)) (iI v) = some (aI .int 8 (upd F j (iI v))) := fun F j v hj => by
    rw [sI_I (by omega) (by omega) (by omega), Int.toNat_natCast]
  have hs0 := fun F v => hs F 0 v (by omega)
  rw [show ((0 : Nat) : Int) = 0 from rfl] at hs0
  have hs1 := fun F v => hs F 1 v (by omega)
  rw [show ((1 : Nat) : Int) = 1 from rfl] at hs1
  have hs2 := fun F v => hs F 2 v (by omega)
  rw [show ((2 : Nat) : Int) = 2 from rfl] at hs2
  have hs3 := fun F v => hs F 3 v (by omega)
  rw [show ((3 : Nat) : Int) = 3 from rfl] at hs3
  have hs4 := fun F v => hs F 4 v (by omega)
  rw [show ((4 : Nat) : Int) = 4 from rfl] at hs4
  have hs5 := fun F v => hs F 5 v (by omega)
  rw [show ((5 : Nat) : Int) = 5 from rfl] at hs5
  have hs6 := fun F v => hs F 6 v (by omega)
  rw [show ((6 : Nat) : Int) = 6 from rfl] at hs6
  have hs7 := fun F v => hs F 7 v (by omega)
  rw [show ((7 : Nat) : Int) = 7 from rfl] at hs7
  have hl := bs_loop (d := d) (h := aup h n (aI .int 8 (fun i => if i < 8 then iI (stN i) else iI 0))) (q := n) (r := (n + 1, w + 8, g)) (y := y) (M := M) aup_s (fun j hj => if_pos hj) hy hA hm hF hV hr 8 0 (by omega) none
  rw [show ((0 : Nat) : Int) = 0 from rfl, show ((bsR (ofN t v u F m) 0 : Nat) : Int) = 96 from rfl] at hl
  have g0 : gI (some (aI .int 8 (fun i => if i < 8 then iI (stN i) else iI 0))) (iI 0) = some (iI 96) := gI_0 (by omega)
  have ms : mdW (aup h n (aI .int 8 (fun i => if i < 8 then iI (stN i) else iI 0))) y M n = some (aI .int 8 (fun i => if i < 8 then iI (stN i) else iI 0)) := by rw [md_out hy, aup_s]
  have hA2 : L (d + 3) 257 0 [some (.ref y), some (.int (iI t)), some (.int (iI v)), some (.int (iI u)), none, none, none, none, none, none] [] (mdW h y M, n, w, g) =
      some (.inl (some (.int (iI (bsR (ofN t v u F m) 8)))), (mdW (aup h n (aI .int 8 (fun i => if i < 8 then iI (stN i) else iI 0))) y M, n + 1, w + 8, g)) := by
    simp (disch := omega) only [r257_0, r257_2, r257_4i, r257_4, r257_5, r257_6, r257_8, r257_9i, r257_9, r257_10, r257_11, r257_13, r257_14i, r257_14, r257_15, r257_16, r257_18, r257_19i, r257_19, r257_20, r257_21, r257_23, r257_24i, r257_24, r257_25, r257_26, r257_28, r257_29i, r257_29, r257_30, r257_31, r257_33, r257_34i, r257_34, r257_35, r257_37, r257_39, r257_40i, r257_40, r257_41, r257_43, r257_45, e1, e2, aup_s, hs0, hs1, hs2, hs3, hs4, hs5, hs6, hs7, aup_2, st_up, kl_n, kl_i, kl_r, kl_z, kl_l, kl_d, catS_0, catS_c, cat_i, cat_l, cat_d, cat_r, cat_n, kC_r, kC_x, Option.bind_some, Option.toList_some, Option.toList_none, List.cons_append, List.nil_append, gB0, gB1, gB2, gB3, gB4, rvB, nI_iI, i0, i1, l0_, wr_s, aup_s, and_true, true_and, and_self, eq_self, if_true, if_false, Nat.zero_le, Nat.reduceAdd, Nat.reduceLeDiff, gN_I, gN_L, gN_P, bI_0, bI_ok, z0, z1, Bool.true_eq, Bool.false_eq_true, not_true_eq_false, not_false_eq_true]
    rw [md_n hy]
    simp (disch := omega) only [r257_46, r257_48, r257_50, r257_51, r257_52, r257_54, r257_56, r257_58, r257_60, r257_61, r257_63, r257_64, ms, g0, gN_I, kl_n, kl_i, kl_r, kl_z, kl_l, kl_d, catS_0, catS_c, cat_i, cat_l, cat_d, cat_r, cat_n, kC_r, kC_x, Option.bind_some, Option.toList_some, Option.toList_none, List.cons_append, List.nil_append, gB0, gB1, gB2, gB3, gB4, rvB, nI_iI, i0, i1, l0_, wr_s, aup_s, and_true, true_and, and_self, eq_self, if_true, if_false, Nat.zero_le, Nat.reduceAdd, Nat.reduceLeDiff, gN_I, gN_L, gN_P, bI_0, bI_ok, z0, z1, Bool.true_eq, Bool.false_eq_true, not_true_eq_false, not_false_eq_true]
    exact hl
  have ef : (fsR (ofN t v u F m) 8).1 = bsR (ofN t v u F m) 8 := by rw [bs_fs hC 7]
  rw [ef, e257, hA2, fin_fr hy (fun q hq => aup_o (by omega))]
theorem r_bestStep {t v u : Int} (hy : y + 531 ≤ n) (hA : M.2.1 = nB m F X) (hm : m ≤ 60) (hF : ∀ i, cOk (F i)) (hV : ntOk F m) (hr : rgOk t v u) : aE (d + 5) 258 [.ref y, .int (iI t), .int (iI v), .int (iI u)] (mdW h y M, n, w, g) =
    some (.inl (some (.int (iI (fsR (ofN t v u F m) 8).1))), (mdW h y ((iI 0, M.1.2), M.2), n + 1, w + 8, g)) := by
  have hr2 : rgOk t v u := hr
  unfold rgOk at hr2
  have q1 := eq_true hr2
  have bn := r_bestNow (d := d) (n := n) (w := w) (g := g) (h := h) (y := y) (M := ((iI 0, M.1.2), M.2)) (X := X) hy hA hm hF hV hr
  simp (disch := omega) only [e258, r258_0, r258_1, r258_2, r258_5, r258_6, r258_7, r258_8, r258_11, r258_14, r258_15, r258_16, r258_17, r258_18, r258_21, r258_24, r258_25, r258_26, r258_29, md_0, sB0i, md_th, s_mRange, q1, bn, kl_n, kl_i, kl_r, kl_z, kl_l, kl_d, catS_0, catS_c, cat_i, cat_l, cat_d, cat_r, cat_n, kC_r, kC_x, Option.bind_some, Option.toList_some, Option.toList_none, List.cons_append, List.nil_append, gB0, gB1, gB2, gB3, gB4, rvB, nI_iI, i0, i1, l0_, wr_s, aup_s, and_true, true_and, and_self, eq_self, if_true, if_false, Nat.zero_le, Nat.reduceAdd, Nat.reduceLeDiff, gN_I, gN_L, gN_P, bI_0, bI_ok, z0, z1, Bool.true_eq, Bool.false_eq_true, not_true_eq_false, not_false_eq_true]
theorem r_bestStep_1 {t v u : Int} (b1 : -2147483648 ≤ t ∧ t < 2147483648) (b2 : -2147483648 ≤ v ∧ v < 2147483648) (b3 : -2147483648 ≤ u ∧ u < 2147483648) (hc : ¬ rgOk t v u) :
    aE (d + 5) 258 [.ref y, .int (iI t), .int (iI v), .int (iI u)] (mdW h y M, r) = some (.inl (some (.int (iI 0))), (mdW h y ((iI 1, M.1.2), M.2), r)) := by
  unfold rgOk at hc
  have qT := eq_false hc
  simp (disch := omega) only [e258, r258_0, r258_1, r258_2, r258_5, r258_6, r258_7, r258_8, r258_11, r258_14, r258_15, r258_16, r258_17, r258_18, r258_21, r258_24, r258_25, r258_26, r258_29, md_0, sB0i, md_th, s_mRange, qT, r_refuse, kl_n, kl_i, kl_r, kl_z, kl_l, kl_d, catS_0, catS_c, cat_i, cat_l, cat_d, cat_r, cat_n, kC_r, kC_x, Option.bind_some, Option.toList_some, Option.toList_none, List.cons_append, List.nil_append, gB0, gB1, gB2, gB3, gB4, rvB, nI_iI, i0, i1, l0_, wr_s, aup_s, and_true, true_and, and_self, eq_self, if_true, if_false, Nat.zero_le, Nat.reduceAdd, Nat.reduceLeDiff, gN_I, gN_L, gN_P, bI_0, bI_ok, z0, z1, Bool.true_eq, Bool.false_eq_true, not_true_eq_false, not_false_eq_true]
end
