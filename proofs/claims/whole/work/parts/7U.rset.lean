/-! ===== the reference sets speeds, meters, tracks, the loop ===== -/
section
variable {F : Nat → Int32} {v : Int32}
theorem n2_0 : sI (some (aI .int 2 F)) (iI 0) v = some (aI .int 2 (upd F 0 v)) := sI_I (j := 0) (by omega) (by omega) (by omega)
theorem n2_1 : sI (some (aI .int 2 F)) (iI 1) v = some (aI .int 2 (upd F 1 v)) := sI_I (j := 1) (by omega) (by omega) (by omega)
theorem n3_0 : sI (some (aI .int 3 F)) (iI 0) v = some (aI .int 3 (upd F 0 v)) := sI_I (j := 0) (by omega) (by omega) (by omega)
theorem n3_1 : sI (some (aI .int 3 F)) (iI 1) v = some (aI .int 3 (upd F 1 v)) := sI_I (j := 1) (by omega) (by omega) (by omega)
theorem n3_2 : sI (some (aI .int 3 F)) (iI 2) v = some (aI .int 3 (upd F 2 v)) := sI_I (j := 2) (by omega) (by omega) (by omega)
theorem n4_0 : sI (some (aI .int 4 F)) (iI 0) v = some (aI .int 4 (upd F 0 v)) := sI_I (j := 0) (by omega) (by omega) (by omega)
theorem n4_1 : sI (some (aI .int 4 F)) (iI 1) v = some (aI .int 4 (upd F 1 v)) := sI_I (j := 1) (by omega) (by omega) (by omega)
theorem n4_2 : sI (some (aI .int 4 F)) (iI 2) v = some (aI .int 4 (upd F 2 v)) := sI_I (j := 2) (by omega) (by omega) (by omega)
theorem n4_3 : sI (some (aI .int 4 F)) (iI 3) v = some (aI .int 4 (upd F 3 v)) := sI_I (j := 3) (by omega) (by omega) (by omega)
end
def n2 (a b : Int32) : Nat → Int32 := upd (upd (fun _ => iI 0) 0 a) 1 b
def n3 (a b c : Int32) : Nat → Int32 := upd (upd (upd (fun _ => iI 0) 0 a) 1 b) 2 c
def n4 (a b c e : Int32) : Nat → Int32 := upd (upd (upd (upd (fun _ => iI 0) 0 a) 1 b) 2 c) 3 e
section
variable {d n w : Nat} {g : Nat × Nat} {h : aHf} {y : Nat} {M : Md}
theorem r_setSpeed_0 {k v : Int} (b0 : -2147483648 ≤ k ∧ k < 2147483648) (b1 : -2147483648 ≤ v ∧ v < 2147483648) (hc : (0 ≤ k ∧ k ≤ 9599) ∧ (v = 0 ∨ 200 ≤ v ∧ v ≤ 3000)) {s : List Value} : L (d + 8) 221 0 [some (.ref y), some (.int (iI k)), some (.int (iI v))] [] (mdW h y M, n, w, g) = L (d + 8) 221 38 [some (.ref y), some (.int (iI k)), some (.int (iI v))] [] (mdW h y (bgM M), n, w, g) := by
  have bg := r_begin (d := d + 7) (n := n) (w := w) (g := g) (h := h) (y := y) (M := M)
  by_cases z : v = 0
  · have zT := eq_true z
    simp (disch := omega) only [r221_0, r221_1, r221_4, r221_5, r221_6, r221_9, r221_12, r221_15, r221_16, r221_19, r221_20, r221_23, r221_26, r221_29, r221_32, r221_33, r221_34, r221_37, md_0, bg, s_mis, hc.1, iI_eq, zT, kl_n, kl_i, kl_r, kl_z, kl_l, kl_d, catS_0, catS_c, cat_i, cat_l, cat_d, cat_r, cat_n, kC_r, kC_x, Option.bind_some, Option.toList_some, Option.toList_none, List.cons_append, List.nil_append, gB0, gB1, gB2, gB3, gB4, rvB, nI_iI, i0, i1, l0_, wr_s, aup_s, and_true, true_and, and_self, eq_self, if_true, if_false, Nat.zero_le, Nat.reduceAdd, Nat.reduceLeDiff, gN_I, gN_L, gN_P, bI_0, bI_ok, z0, z1, Bool.true_eq, Bool.false_eq_true, not_true_eq_false, not_false_eq_true]
  · have zF := eq_false z
    have z2 := hc.2.resolve_left z
    simp (disch := omega) only [r221_0, r221_1, r221_4, r221_5, r221_6, r221_9, r221_12, r221_15, r221_16, r221_19, r221_20, r221_23, r221_26, r221_29, r221_32, r221_33, r221_34, r221_37, md_0, bg, s_mis, hc.1, iI_eq, zF, z2, kl_n, kl_i, kl_r, kl_z, kl_l, kl_d, catS_0, catS_c, cat_i, cat_l, cat_d, cat_r, cat_n, kC_r, kC_x, Option.bind_some, Option.toList_some, Option.toList_none, List.cons_append, List.nil_append, gB0, gB1, gB2, gB3, gB4, rvB, nI_iI, i0, i1, l0_, wr_s, aup_s, and_true, true_and, and_self, eq_self, if_true, if_false, Nat.zero_le, Nat.reduceAdd, Nat.reduceLeDiff, gN_I, gN_L, gN_P, bI_0, bI_ok, z0, z1, Bool.true_eq, Bool.false_eq_true, not_true_eq_false, not_false_eq_true]
theorem r_setSpeed {k v : Int} {m u : Nat} {A : Nat → Int32} (hy : y + 531 ≤ n) (b0 : -2147483648 ≤ k ∧ k < 2147483648) (b1 : -2147483648 ≤ v ∧ v < 2147483648) (hc : (0 ≤ k ∧ k ≤ 9599) ∧ (v = 0 ∨ 200 ≤ v ∧ v ≤ 3000)) (hu : M.1.2.1 = iI u) (hb : u ≤ 20) (hU : ∀ i, i < 21 → M.2.2.2.1.1 i < 21)
    (hS : aE (d + 8) 220 [.ref y, .int (iI 325), .int (iI 2), .ref n] (mdW (aup h n (aI .int 2 (n2 (iI k) (iI v)))) y (bgM M), n + 1, w + 2, g) = some (.inl (some (.int (iI 1))), (mdW (aup h n (aI .int 2 (n2 (iI k) (iI v)))) y (alM (bgM M) A), n + 1, w + 2, g))) (hA : A 325 = iI m) :
    aE (d + 9) 221 [.ref y, .int (iI k), .int (iI v)] (mdW h y M, n, w, g) = some (.inl (some (.int (iI m))), (mdW h y (dnM (alM (bgM M) A) u), n + 1, w + 2, g)) := by
  have e5 : (iI 2).toNatClampNeg = 2 := by decide
  have e6 : ¬ (iI 2 < iI 0 ∨ 60000000 < 2) := by decide
  have i10 : ¬ iI 1 = iI 0 := by decide
  have k0 := r_setSpeed_0 (d := d) (n := n) (w := w) (g := g) (h := h) (y := y) (M := M) b0 b1 hc (s := [])
  have m0 := md_0 (h := h) (y := y) (M := bgM M)
  have m1 := md_0 (h := aup h n (aI .int 2 (n2 (iI k) (iI v)))) (y := y) (M := bgM M)
  have m2 := md_0 (h := aup h n (aI .int 2 (n2 (iI k) (iI v)))) (y := y) (M := alM (bgM M) A)
  have m3 : mdW (aup h n (aI .int 2 (n2 (iI k) (iI v)))) y (alM (bgM M) A) (y + 1) = some (aI .int 385 A) := md_1
  have gL : gI (some (aI .int 385 A)) (iI 325) = some (iI m) := by
    have z := gI_I (N := 385) (f := A) (j := 325) (by omega) (by omega) (by omega)
    rw [z]
    exact congrArg some hA
  have dn := r_done (d := d + 1) (n := n + 1) (w := w + 2) (g := g) (h := aup h n (aI .int 2 (n2 (iI k) (iI v)))) (y := y) (M := alM (bgM M) A) (t := iI m) hu hb hU
  have hL : L (d + 8) 221 0 [some (.ref y), some (.int (iI k)), some (.int (iI v))] [] (mdW h y M, n, w, g) = some (.inl (some (.int (iI m))), (mdW (aup h n (aI .int 2 (n2 (iI k) (iI v)))) y (dnM (alM (bgM M) A) u), n + 1, w + 2, g)) := by
    rw [k0]
    simp (disch := omega) only [r221_38, r221_39, r221_42, r221_43, r221_44, r221_46i, r221_46, r221_47, r221_48, r221_49, r221_50i, r221_50, r221_51, r221_52, r221_53, m0, e5, e6, aup_s, n2_0, n2_1, aup_2, kl_n, kl_i, kl_r, kl_z, kl_l, kl_d, catS_0, catS_c, cat_i, cat_l, cat_d, cat_r, cat_n, kC_r, kC_x, Option.bind_some, Option.toList_some, Option.toList_none, List.cons_append, List.nil_append, gB0, gB1, gB2, gB3, gB4, rvB, nI_iI, i0, i1, l0_, wr_s, aup_s, and_true, true_and, and_self, eq_self, if_true, if_false, Nat.zero_le, Nat.reduceAdd, Nat.reduceLeDiff, gN_I, gN_L, gN_P, bI_0, bI_ok, z0, z1, Bool.true_eq, Bool.false_eq_true, not_true_eq_false, not_false_eq_true]
    rw [md_n hy]
    show L (d + 8) 221 54 _ _ (mdW (aup h n (aI .int 2 (n2 (iI k) (iI v)))) y (bgM M), _) = _
    simp (disch := omega) only [r221_54, r221_57, m1, hS, i10, kl_n, kl_i, kl_r, kl_z, kl_l, kl_d, catS_0, catS_c, cat_i, cat_l, cat_d, cat_r, cat_n, kC_r, kC_x, Option.bind_some, Option.toList_some, Option.toList_none, List.cons_append, List.nil_append, gB0, gB1, gB2, gB3, gB4, rvB, nI_iI, i0, i1, l0_, wr_s, aup_s, and_true, true_and, and_self, eq_self, if_true, if_false, Nat.zero_le, Nat.reduceAdd, Nat.reduceLeDiff, gN_I, gN_L, gN_P, bI_0, bI_ok, z0, z1, Bool.true_eq, Bool.false_eq_true, not_true_eq_false, not_false_eq_true]
    simp (disch := omega) only [r221_60, r221_61, r221_62, r221_65, r221_68, r221_69, r221_72, r221_80, m2, m3, gB1, gL, dn, kl_n, kl_i, kl_r, kl_z, kl_l, kl_d, catS_0, catS_c, cat_i, cat_l, cat_d, cat_r, cat_n, kC_r, kC_x, Option.bind_some, Option.toList_some, Option.toList_none, List.cons_append, List.nil_append, gB0, gB1, gB2, gB3, gB4, rvB, nI_iI, i0, i1, l0_, wr_s, aup_s, and_true, true_and, and_self, eq_self, if_true, if_false, Nat.zero_le, Nat.reduceAdd, Nat.reduceLeDiff, gN_I, gN_L, gN_P, bI_0, bI_ok, z0, z1, Bool.true_eq, Bool.false_eq_true, not_true_eq_false, not_false_eq_true]
  rw [e221, hL, fin_mt hy]
theorem r_setSpeed_2 {k v : Int} (hy : y + 531 ≤ n) (b0 : -2147483648 ≤ k ∧ k < 2147483648) (b1 : -2147483648 ≤ v ∧ v < 2147483648) (hc : (0 ≤ k ∧ k ≤ 9599) ∧ (v = 0 ∨ 200 ≤ v ∧ v ≤ 3000))
    (hS : aE (d + 8) 220 [.ref y, .int (iI 325), .int (iI 2), .ref n] (mdW (aup h n (aI .int 2 (n2 (iI k) (iI v)))) y (bgM M), n + 1, w + 2, g) = some (.inl (some (.int (iI 0))), (mdW (aup h n (aI .int 2 (n2 (iI k) (iI v)))) y (bgM M), n + 1, w + 2, g))) :
    aE (d + 9) 221 [.ref y, .int (iI k), .int (iI v)] (mdW h y M, n, w, g) = some (.inl (some (.int (iI 0))), (mdW h y (rfM 2 (bgM M)), n + 1, w + 2, g)) := by
  have e5 : (iI 2).toNatClampNeg = 2 := by decide
  have e6 : ¬ (iI 2 < iI 0 ∨ 60000000 < 2) := by decide
  have k0 := r_setSpeed_0 (d := d) (n := n) (w := w) (g := g) (h := h) (y := y) (M := M) b0 b1 hc (s := [])
  have m0 := md_0 (h := h) (y := y) (M := bgM M)
  have m1 := md_0 (h := aup h n (aI .int 2 (n2 (iI k) (iI v)))) (y := y) (M := bgM M)
  have rf := r_refuse (d := d + 7) (h := aup h n (aI .int 2 (n2 (iI k) (iI v)))) (r := (n + 1, w + 2, g)) (y := y) (M := bgM M) (k := 2)
  have hL : L (d + 8) 221 0 [some (.ref y), some (.int (iI k)), some (.int (iI v))] [] (mdW h y M, n, w, g) = some (.inl (some (.int (iI 0))), (mdW (aup h n (aI .int 2 (n2 (iI k) (iI v)))) y (rfM 2 (bgM M)), n + 1, w + 2, g)) := by
    rw [k0]
    simp (disch := omega) only [r221_38, r221_39, r221_42, r221_43, r221_44, r221_46i, r221_46, r221_47, r221_48, r221_49, r221_50i, r221_50, r221_51, r221_52, r221_53, m0, e5, e6, aup_s, n2_0, n2_1, aup_2, kl_n, kl_i, kl_r, kl_z, kl_l, kl_d, catS_0, catS_c, cat_i, cat_l, cat_d, cat_r, cat_n, kC_r, kC_x, Option.bind_some, Option.toList_some, Option.toList_none, List.cons_append, List.nil_append, gB0, gB1, gB2, gB3, gB4, rvB, nI_iI, i0, i1, l0_, wr_s, aup_s, and_true, true_and, and_self, eq_self, if_true, if_false, Nat.zero_le, Nat.reduceAdd, Nat.reduceLeDiff, gN_I, gN_L, gN_P, bI_0, bI_ok, z0, z1, Bool.true_eq, Bool.false_eq_true, not_true_eq_false, not_false_eq_true]
    rw [md_n hy]
    show L (d + 8) 221 54 _ _ (mdW (aup h n (aI .int 2 (n2 (iI k) (iI v)))) y (bgM M), _) = _
    simp (disch := omega) only [r221_54, r221_57, m1, hS, kl_n, kl_i, kl_r, kl_z, kl_l, kl_d, catS_0, catS_c, cat_i, cat_l, cat_d, cat_r, cat_n, kC_r, kC_x, Option.bind_some, Option.toList_some, Option.toList_none, List.cons_append, List.nil_append, gB0, gB1, gB2, gB3, gB4, rvB, nI_iI, i0, i1, l0_, wr_s, aup_s, and_true, true_and, and_self, eq_self, if_true, if_false, Nat.zero_le, Nat.reduceAdd, Nat.reduceLeDiff, gN_I, gN_L, gN_P, bI_0, bI_ok, z0, z1, Bool.true_eq, Bool.false_eq_true, not_true_eq_false, not_false_eq_true]
    simp (disch := omega) only [r221_75, r221_76, r221_77, r221_80, m1, rf, kl_n, kl_i, kl_r, kl_z, kl_l, kl_d, catS_0, catS_c, cat_i, cat_l, cat_d, cat_r, cat_n, kC_r, kC_x, Option.bind_some, Option.toList_some, Option.toList_none, List.cons_append, List.nil_append, gB0, gB1, gB2, gB3, gB4, rvB, nI_iI, i0, i1, l0_, wr_s, aup_s, and_true, true_and, and_self, eq_self, if_true, if_false, Nat.zero_le, Nat.reduceAdd, Nat.reduceLeDiff, gN_I, gN_L, gN_P, bI_0, bI_ok, z0, z1, Bool.true_eq, Bool.false_eq_true, not_true_eq_false, not_false_eq_true]
    rfl
  rw [e221, hL, fin_mt hy]
theorem r_setSpeed_1 {k v : Int} (hy : y + 531 ≤ n) (b0 : -2147483648 ≤ k ∧ k < 2147483648) (b1 : -2147483648 ≤ v ∧ v < 2147483648) (hc : ¬ ((0 ≤ k ∧ k ≤ 9599) ∧ (v = 0 ∨ 200 ≤ v ∧ v ≤ 3000))) : aE (d + 9) 221 [.ref y, .int (iI k), .int (iI v)] (mdW h y M, n, w, g) = some (.inl (some (.int (iI 0))), (mdW h y (rfM 1 (bgM M)), n, w, g)) := by
  have bg := r_begin (d := d + 7) (n := n) (w := w) (g := g) (h := h) (y := y) (M := M)
  have m0 := md_0 (h := h) (y := y) (M := bgM M)
  have rf := r_refuse (d := d + 7) (h := h) (r := (n, w, g)) (y := y) (M := bgM M) (k := 1)
  have hL : L (d + 8) 221 0 [some (.ref y), some (.int (iI k)), some (.int (iI v))] [] (mdW h y M, n, w, g) = some (.inl (some (.int (iI 0))), (mdW h y (rfM 1 (bgM M)), n, w, g)) := by
    simp (disch := omega) only [r221_0, r221_1, r221_4, r221_5, r221_6, r221_9, r221_12, r221_15, r221_16, r221_19, r221_20, r221_23, r221_26, r221_29, md_0, bg, s_mis, iI_eq, iI_le, ite_not, kl_n, kl_i, kl_r, kl_z, kl_l, kl_d, catS_0, catS_c, cat_i, cat_l, cat_d, cat_r, cat_n, kC_r, kC_x, Option.bind_some, Option.toList_some, Option.toList_none, List.cons_append, List.nil_append, gB0, gB1, gB2, gB3, gB4, rvB, nI_iI, i0, i1, l0_, wr_s, aup_s, and_true, true_and, and_self, eq_self, if_true, if_false, Nat.zero_le, Nat.reduceAdd, Nat.reduceLeDiff, gN_I, gN_L, gN_P, bI_0, bI_ok, z0, z1, Bool.true_eq, Bool.false_eq_true, not_true_eq_false, not_false_eq_true]
    have rr : L (d + 8) 221 32 [some (.ref y), some (.int (iI k)), some (.int (iI v))] [] (mdW h y (bgM M), n, w, g) = some (.inl (some (.int (iI 0))), (mdW h y (rfM 1 (bgM M)), n, w, g)) := by
      simp (disch := omega) only [r221_32, r221_33, r221_34, r221_37, m0, rf, kl_n, kl_i, kl_r, kl_z, kl_l, kl_d, catS_0, catS_c, cat_i, cat_l, cat_d, cat_r, cat_n, kC_r, kC_x, Option.bind_some, Option.toList_some, Option.toList_none, List.cons_append, List.nil_append, gB0, gB1, gB2, gB3, gB4, rvB, nI_iI, i0, i1, l0_, wr_s, aup_s, and_true, true_and, and_self, eq_self, if_true, if_false, Nat.zero_le, Nat.reduceAdd, Nat.reduceLeDiff, gN_I, gN_L, gN_P, bI_0, bI_ok, z0, z1, Bool.true_eq, Bool.false_eq_true, not_true_eq_false, not_false_eq_true]
      rfl
    rw [rr]
    repeat' split
    all_goals first
      | rfl
      | (exfalso; omega)
  rw [e221, hL, fin_mm hy]
theorem r_setMeter_0 {k v e : Int} (b0 : -2147483648 ≤ k ∧ k < 2147483648) (b1 : -2147483648 ≤ v ∧ v < 2147483648) (b2 : -2147483648 ≤ e ∧ e < 2147483648) (hc : (0 ≤ k ∧ k ≤ 99) ∧ (0 ≤ v ∧ v ≤ 16) ∧ (v ≤ 0 ∨ e = 2 ∨ e = 4 ∨ e = 8 ∨ e = 16)) {s : List Value} : L (d + 8) 222 0 [some (.ref y), some (.int (iI k)), some (.int (iI v)), some (.int (iI e))] [] (mdW h y M, n, w, g) = L (d + 8) 222 56 [some (.ref y), some (.int (iI k)), some (.int (iI v)), some (.int (iI e))] [] (mdW h y (bgM M), n, w, g) := by
  have bg := r_begin (d := d + 7) (n := n) (w := w) (g := g) (h := h) (y := y) (M := M)
  simp (disch := omega) only [r222_0, r222_1, r222_4, r222_5, r222_6, r222_8, r222_11, r222_14, r222_15, r222_16, r222_18, r222_21, r222_24, r222_25, r222_28, r222_29, r222_30, r222_33, r222_34, r222_35, r222_38, r222_39, r222_41, r222_44, r222_45, r222_47, md_0, bg, s_mis, hc.1, hc.2.1, iI_eq, iI_le, kl_n, kl_i, kl_r, kl_z, kl_l, kl_d, catS_0, catS_c, cat_i, cat_l, cat_d, cat_r, cat_n, kC_r, kC_x, Option.bind_some, Option.toList_some, Option.toList_none, List.cons_append, List.nil_append, gB0, gB1, gB2, gB3, gB4, rvB, nI_iI, i0, i1, l0_, wr_s, aup_s, and_true, true_and, and_self, eq_self, if_true, if_false, Nat.zero_le, Nat.reduceAdd, Nat.reduceLeDiff, gN_I, gN_L, gN_P, bI_0, bI_ok, z0, z1, Bool.true_eq, Bool.false_eq_true, not_true_eq_false, not_false_eq_true]
  have := hc.2.2
  repeat' split
  all_goals first
    | rfl
    | (exfalso; omega)
theorem r_setMeter {k v e : Int} {m u : Nat} {A : Nat → Int32} (hy : y + 531 ≤ n) (b0 : -2147483648 ≤ k ∧ k < 2147483648) (b1 : -2147483648 ≤ v ∧ v < 2147483648) (b2 : -2147483648 ≤ e ∧ e < 2147483648) (hc : (0 ≤ k ∧ k ≤ 99) ∧ (0 ≤ v ∧ v ≤ 16) ∧ (v ≤ 0 ∨ e = 2 ∨ e = 4 ∨ e = 8 ∨ e = 16)) (hu : M.1.2.1 = iI u) (hb : u ≤ 20) (hU : ∀ i, i < 21 → M.2.2.2.1.1 i < 21)
    (hS : aE (d + 8) 220 [.ref y, .int (iI 348), .int (iI 3), .ref n] (mdW (aup h n (aI .int 3 (n3 (iI k) (iI v) (iI e)))) y (bgM M), n + 1, w + 3, g) = some (.inl (some (.int (iI 1))), (mdW (aup h n (aI .int 3 (n3 (iI k) (iI v) (iI e)))) y (alM (bgM M) A), n + 1, w + 3, g))) (hA : A 348 = iI m) :
    aE (d + 9) 222 [.ref y, .int (iI k), .int (iI v), .int (iI e)] (mdW h y M, n, w, g) = some (.inl (some (.int (iI m))), (mdW h y (dnM (alM (bgM M) A) u), n + 1, w + 3, g)) := by
  have e5 : (iI 3).toNatClampNeg = 3 := by decide
  have e6 : ¬ (iI 3 < iI 0 ∨ 60000000 < 3) := by decide
  have i10 : ¬ iI 1 = iI 0 := by decide
  have k0 := r_setMeter_0 (d := d) (n := n) (w := w) (g := g) (h := h) (y := y) (M := M) b0 b1 b2 hc (s := [])
  have m0 := md_0 (h := h) (y := y) (M := bgM M)
  have m1 := md_0 (h := aup h n (aI .int 3 (n3 (iI k) (iI v) (iI e)))) (y := y) (M := bgM M)
  have m2 := md_0 (h := aup h n (aI .int 3 (n3 (iI k) (iI v) (iI e)))) (y := y) (M := alM (bgM M) A)
  have m3 : mdW (aup h n (aI .int 3 (n3 (iI k) (iI v) (iI e)))) y (alM (bgM M) A) (y + 1) = some (aI .int 385 A) := md_1
  have gL : gI (some (aI .int 385 A)) (iI 348) = some (iI m) := by
    have z := gI_I (N := 385) (f := A) (j := 348) (by omega) (by omega) (by omega)
    rw [z]
    exact congrArg some hA
  have dn := r_done (d := d + 1) (n := n + 1) (w := w + 3) (g := g) (h := aup h n (aI .int 3 (n3 (iI k) (iI v) (iI e)))) (y := y) (M := alM (bgM M) A) (t := iI m) hu hb hU
  have hL : L (d + 8) 222 0 [some (.ref y), some (.int (iI k)), some (.int (iI v)), some (.int (iI e))] [] (mdW h y M, n, w, g) = some (.inl (some (.int (iI m))), (mdW (aup h n (aI .int 3 (n3 (iI k) (iI v) (iI e)))) y (dnM (alM (bgM M) A) u), n + 1, w + 3, g)) := by
    rw [k0]
    simp (disch := omega) only [r222_56, r222_57, r222_60, r222_61, r222_62, r222_64i, r222_64, r222_65, r222_66, r222_67, r222_68i, r222_68, r222_69, r222_70, r222_71, r222_72i, r222_72, r222_73, r222_74, r222_75, m0, e5, e6, aup_s, n3_0, n3_1, n3_2, aup_2, kl_n, kl_i, kl_r, kl_z, kl_l, kl_d, catS_0, catS_c, cat_i, cat_l, cat_d, cat_r, cat_n, kC_r, kC_x, Option.bind_some, Option.toList_some, Option.toList_none, List.cons_append, List.nil_append, gB0, gB1, gB2, gB3, gB4, rvB, nI_iI, i0, i1, l0_, wr_s, aup_s, and_true, true_and, and_self, eq_self, if_true, if_false, Nat.zero_le, Nat.reduceAdd, Nat.reduceLeDiff, gN_I, gN_L, gN_P, bI_0, bI_ok, z0, z1, Bool.true_eq, Bool.false_eq_true, not_true_eq_false, not_false_eq_true]
    rw [md_n hy]
    show L (d + 8) 222 76 _ _ (mdW (aup h n (aI .int 3 (n3 (iI k) (iI v) (iI e)))) y (bgM M), _) = _
    simp (disch := omega) only [r222_76, r222_79, m1, hS, i10, kl_n, kl_i, kl_r, kl_z, kl_l, kl_d, catS_0, catS_c, cat_i, cat_l, cat_d, cat_r, cat_n, kC_r, kC_x, Option.bind_some, Option.toList_some, Option.toList_none, List.cons_append, List.nil_append, gB0, gB1, gB2, gB3, gB4, rvB, nI_iI, i0, i1, l0_, wr_s, aup_s, and_true, true_and, and_self, eq_self, if_true, if_false, Nat.zero_le, Nat.reduceAdd, Nat.reduceLeDiff, gN_I, gN_L, gN_P, bI_0, bI_ok, z0, z1, Bool.true_eq, Bool.false_eq_true, not_true_eq_false, not_false_eq_true]
    simp (disch := omega) only [r222_82, r222_83, r222_84, r222_87, r222_90, r222_91, r222_94, r222_102, m2, m3, gB1, gL, dn, kl_n, kl_i, kl_r, kl_z, kl_l, kl_d, catS_0, catS_c, cat_i, cat_l, cat_d, cat_r, cat_n, kC_r, kC_x, Option.bind_some, Option.toList_some, Option.toList_none, List.cons_append, List.nil_append, gB0, gB1, gB2, gB3, gB4, rvB, nI_iI, i0, i1, l0_, wr_s, aup_s, and_true, true_and, and_self, eq_self, if_true, if_false, Nat.zero_le, Nat.reduceAdd, Nat.reduceLeDiff, gN_I, gN_L, gN_P, bI_0, bI_ok, z0, z1, Bool.true_eq, Bool.false_eq_true, not_true_eq_false, not_false_eq_true]
  rw [e222, hL, fin_mt hy]
theorem r_setMeter_2 {k v e : Int} (hy : y + 531 ≤ n) (b0 : -2147483648 ≤ k ∧ k < 2147483648) (b1 : -2147483648 ≤ v ∧ v < 2147483648) (b2 : -2147483648 ≤ e ∧ e < 2147483648) (hc : (0 ≤ k ∧ k ≤ 99) ∧ (0 ≤ v ∧ v ≤ 16) ∧ (v ≤ 0 ∨ e = 2 ∨ e = 4 ∨ e = 8 ∨ e = 16))
    (hS : aE (d + 8) 220 [.ref y, .int (iI 348), .int (iI 3), .ref n] (mdW (aup h n (aI .int 3 (n3 (iI k) (iI v) (iI e)))) y (bgM M), n + 1, w + 3, g) = some (.inl (some (.int (iI 0))), (mdW (aup h n (aI .int 3 (n3 (iI k) (iI v) (iI e)))) y (bgM M), n + 1, w + 3, g))) :
    aE (d + 9) 222 [.ref y, .int (iI k), .int (iI v), .int (iI e)] (mdW h y M, n, w, g) = some (.inl (some (.int (iI 0))), (mdW h y (rfM 2 (bgM M)), n + 1, w + 3, g)) := by
  have e5 : (iI 3).toNatClampNeg = 3 := by decide
  have e6 : ¬ (iI 3 < iI 0 ∨ 60000000 < 3) := by decide
  have k0 := r_setMeter_0 (d := d) (n := n) (w := w) (g := g) (h := h) (y := y) (M := M) b0 b1 b2 hc (s := [])
  have m0 := md_0 (h := h) (y := y) (M := bgM M)
  have m1 := md_0 (h := aup h n (aI .int 3 (n3 (iI k) (iI v) (iI e)))) (y := y) (M := bgM M)
  have rf := r_refuse (d := d + 7) (h := aup h n (aI .int 3 (n3 (iI k) (iI v) (iI e)))) (r := (n + 1, w + 3, g)) (y := y) (M := bgM M) (k := 2)
  have hL : L (d + 8) 222 0 [some (.ref y), some (.int (iI k)), some (.int (iI v)), some (.int (iI e))] [] (mdW h y M, n, w, g) = some (.inl (some (.int (iI 0))), (mdW (aup h n (aI .int 3 (n3 (iI k) (iI v) (iI e)))) y (rfM 2 (bgM M)), n + 1, w + 3, g)) := by
    rw [k0]
    simp (disch := omega) only [r222_56, r222_57, r222_60, r222_61, r222_62, r222_64i, r222_64, r222_65, r222_66, r222_67, r222_68i, r222_68, r222_69, r222_70, r222_71, r222_72i, r222_72, r222_73, r222_74, r222_75, m0, e5, e6, aup_s, n3_0, n3_1, n3_2, aup_2, kl_n, kl_i, kl_r, kl_z, kl_l, kl_d, catS_0, catS_c, cat_i, cat_l, cat_d, cat_r, cat_n, kC_r, kC_x, Option.bind_some, Option.toList_some, Option.toList_none, List.cons_append, List.nil_append, gB0, gB1, gB2, gB3, gB4, rvB, nI_iI, i0, i1, l0_, wr_s, aup_s, and_true, true_and, and_self, eq_self, if_true, if_false, Nat.zero_le, Nat.reduceAdd, Nat.reduceLeDiff, gN_I, gN_L, gN_P, bI_0, bI_ok, z0, z1, Bool.true_eq, Bool.false_eq_true, not_true_eq_false, not_false_eq_true]
    rw [md_n hy]
    show L (d + 8) 222 76 _ _ (mdW (aup h n (aI .int 3 (n3 (iI k) (iI v) (iI e)))) y (bgM M), _) = _
    simp (disch := omega) only [r222_76, r222_79, m1, hS, kl_n, kl_i, kl_r, kl_z, kl_l, kl_d, catS_0, catS_c, cat_i, cat_l, cat_d, cat_r, cat_n, kC_r, kC_x, Option.bind_some, Option.toList_some, Option.toList_none, List.cons_append, List.nil_append, gB0, gB1, gB2, gB3, gB4, rvB, nI_iI, i0, i1, l0_, wr_s, aup_s, and_true, true_and, and_self, eq_self, if_true, if_false, Nat.zero_le, Nat.reduceAdd, Nat.reduceLeDiff, gN_I, gN_L, gN_P, bI_0, bI_ok, z0, z1, Bool.true_eq, Bool.false_eq_true, not_true_eq_false, not_false_eq_true]
    simp (disch := omega) only [r222_97, r222_98, r222_99, r222_102, m1, rf, kl_n, kl_i, kl_r, kl_z, kl_l, kl_d, catS_0, catS_c, cat_i, cat_l, cat_d, cat_r, cat_n, kC_r, kC_x, Option.bind_some, Option.toList_some, Option.toList_none, List.cons_append, List.nil_append, gB0, gB1, gB2, gB3, gB4, rvB, nI_iI, i0, i1, l0_, wr_s, aup_s, and_true, true_and, and_self, eq_self, if_true, if_false, Nat.zero_le, Nat.reduceAdd, Nat.reduceLeDiff, gN_I, gN_L, gN_P, bI_0, bI_ok, z0, z1, Bool.true_eq, Bool.false_eq_true, not_true_eq_false, not_false_eq_true]
    rfl
  rw [e222, hL, fin_mt hy]
theorem r_setMeter_1 {k v e : Int} (hy : y + 531 ≤ n) (b0 : -2147483648 ≤ k ∧ k < 2147483648) (b1 : -2147483648 ≤ v ∧ v < 2147483648) (b2 : -2147483648 ≤ e ∧ e < 2147483648) (hc : ¬ ((0 ≤ k ∧ k ≤ 99) ∧ (0 ≤ v ∧ v ≤ 16) ∧ (v ≤ 0 ∨ e = 2 ∨ e = 4 ∨ e = 8 ∨ e = 16))) : aE (d + 9) 222 [.ref y, .int (iI k), .int (iI v), .int (iI e)] (mdW h y M, n, w, g) = some (.inl (some (.int (iI 0))), (mdW h y (rfM 1 (bgM M)), n, w, g)) := by
  have bg := r_begin (d := d + 7) (n := n) (w := w) (g := g) (h := h) (y := y) (M := M)
  have m0 := md_0 (h := h) (y := y) (M := bgM M)
  have rf := r_refuse (d := d + 7) (h := h) (r := (n, w, g)) (y := y) (M := bgM M) (k := 1)
  have hL : L (d + 8) 222 0 [some (.ref y), some (.int (iI k)), some (.int (iI v)), some (.int (iI e))] [] (mdW h y M, n, w, g) = some (.inl (some (.int (iI 0))), (mdW h y (rfM 1 (bgM M)), n, w, g)) := by
    simp (disch := omega) only [r222_0, r222_1, r222_4, r222_5, r222_6, r222_8, r222_11, r222_14, r222_15, r222_16, r222_18, r222_21, r222_24, r222_25, r222_28, r222_29, r222_30, r222_33, r222_34, r222_35, r222_38, r222_39, r222_41, r222_44, r222_45, r222_47, md_0, bg, s_mis, iI_eq, iI_le, ite_not, kl_n, kl_i, kl_r, kl_z, kl_l, kl_d, catS_0, catS_c, cat_i, cat_l, cat_d, cat_r, cat_n, kC_r, kC_x, Option.bind_some, Option.toList_some, Option.toList_none, List.cons_append, List.nil_append, gB0, gB1, gB2, gB3, gB4, rvB, nI_iI, i0, i1, l0_, wr_s, aup_s, and_true, true_and, and_self, eq_self, if_true, if_false, Nat.zero_le, Nat.reduceAdd, Nat.reduceLeDiff, gN_I, gN_L, gN_P, bI_0, bI_ok, z0, z1, Bool.true_eq, Bool.false_eq_true, not_true_eq_false, not_false_eq_true]
    have rr : L (d + 8) 222 50 [some (.ref y), some (.int (iI k)), some (.int (iI v)), some (.int (iI e))] [] (mdW h y (bgM M), n, w, g) = some (.inl (some (.int (iI 0))), (mdW h y (rfM 1 (bgM M)), n, w, g)) := by
      simp (disch := omega) only [r222_50, r222_51, r222_52, r222_55, m0, rf, kl_n, kl_i, kl_r, kl_z, kl_l, kl_d, catS_0, catS_c, cat_i, cat_l, cat_d, cat_r, cat_n, kC_r, kC_x, Option.bind_some, Option.toList_some, Option.toList_none, List.cons_append, List.nil_append, gB0, gB1, gB2, gB3, gB4, rvB, nI_iI, i0, i1, l0_, wr_s, aup_s, and_true, true_and, and_self, eq_self, if_true, if_false, Nat.zero_le, Nat.reduceAdd, Nat.reduceLeDiff, gN_I, gN_L, gN_P, bI_0, bI_ok, z0, z1, Bool.true_eq, Bool.false_eq_true, not_true_eq_false, not_false_eq_true]
      rfl
    rw [rr]
    repeat' split
    all_goals first
      | rfl
      | (exfalso; omega)
  rw [e222, hL, fin_mm hy]
/-- four numbers of a track, three of the loop -/
def trR (t : Nat) (a b c e : Int32) (A : Nat → Int32) : Nat → Int32 := va_cpy (n4 a b c e) A 0 (301 + 4 * t) 4
def lpR (a b c : Int32) (A : Nat → Int32) : Nat → Int32 := va_cpy (n3 a b c) A 0 382 3
theorem r_setTrack {t u : Nat} {s a : Prop} [Decidable s] [Decidable a] {f e : Int} (hy : y + 531 ≤ n) (ht : t ≤ 5) (hf : -24 ≤ f ∧ f ≤ 24) (he : -48 ≤ e ∧ e ≤ 48) (hu : M.1.2.1 = iI u) (hb : u ≤ 20) (hU : ∀ i, i < 21 → M.2.2.2.1.1 i < 21) :
    aE (d + 9) 219 [.ref y, .int (iI t), .int (bI s), .int (bI a), .int (iI f), .int (iI e)] (mdW h y M, n, w, g) = some (.inl (some (.int (M.2.1 (301 + 4 * t + 2)))), (mdW h y (dnM (alM (bgM M) (trR t (bI s) (bI a) (iI f) (iI e) M.2.1)) u), n + 1, w + 4, g)) := by
  have q1 : (0 : Int) ≤ t ∧ (t : Int) ≤ 5 := by omega
  have e5 : (iI 4).toNatClampNeg = 4 := by decide
  have e6 : ¬ (iI 4 < iI 0 ∨ 60000000 < 4) := by decide
  have bg := r_begin (d := d + 7) (n := n) (w := w) (g := g) (h := h) (y := y) (M := M)
  have m0 := md_0 (h := h) (y := y) (M := bgM M)
  have tr : aE (d + 8) 218 [.ref y, .int (iI t), .int (iI 2)] (mdW h y (bgM M), n, w, g) = some (.inl (some (.int (M.2.1 (301 + 4 * t + 2)))), (mdW h y (bgM M), n, w, g)) := r_track (d := d + 7) (h := h) (r := (n, w, g)) (y := y) (M := bgM M) (t := t) (j := 2) (by omega) (by omega)
  have m1 := md_0 (h := aup h n (aI .int 4 (n4 (bI s) (bI a) (iI f) (iI e)))) (y := y) (M := bgM M)
  have m2 := md_0 (h := aup h n (aI .int 4 (n4 (bI s) (bI a) (iI f) (iI e)))) (y := y) (M := alM (bgM M) (trR t (bI s) (bI a) (iI f) (iI e) M.2.1))
  have e1 : (301 : Int) + 4 * (t : Int) = ((301 + 4 * t : Nat) : Int) := by omega
  have hn : mdW (aup h n (aI .int 4 (n4 (bI s) (bI a) (iI f) (iI e)))) y (bgM M) n = some (aI .int 4 (n4 (bI s) (bI a) (iI f) (iI e))) := by rw [md_out hy, aup_s]
  have cc := s_acopy (h := mdW (aup h n (aI .int 4 (n4 (bI s) (bI a) (iI f) (iI e)))) y (bgM M)) (n := n + 1) (r := (w + 4, g)) (s := n) (t := y + 1) (sp := 0) (dp := 301 + 4 * t) (m := 4) hn md_1 (by omega) (by omega) (by omega) (by omega)
  rw [md_a] at cc
  have cc2 : aPrim 1001 [.ref n, .int (iI 0), .ref (y + 1), .int (iI (301 + 4 * t : Nat)), .int (iI 4)] (mdW (aup h n (aI .int 4 (n4 (bI s) (bI a) (iI f) (iI e)))) y (bgM M), n + 1, w + 4, g) = some (.inl none, (mdW (aup h n (aI .int 4 (n4 (bI s) (bI a) (iI f) (iI e)))) y (alM (bgM M) (trR t (bI s) (bI a) (iI f) (iI e) M.2.1)), n + 1, w + 4, g)) := cc
  have dn := r_done (d := d + 1) (n := n + 1) (w := w + 4) (g := g) (h := aup h n (aI .int 4 (n4 (bI s) (bI a) (iI f) (iI e)))) (y := y) (M := alM (bgM M) (trR t (bI s) (bI a) (iI f) (iI e) M.2.1)) (t := M.2.1 (301 + 4 * t + 2)) hu hb hU
  have hL : L (d + 8) 219 0 [some (.ref y), some (.int (iI t)), some (.int (bI s)), some (.int (bI a)), some (.int (iI f)), some (.int (iI e)), none, none] [] (mdW h y M, n, w, g) = some (.inl (some (.int (M.2.1 (301 + 4 * t + 2)))), (mdW (aup h n (aI .int 4 (n4 (bI s) (bI a) (iI f) (iI e)))) y (dnM (alM (bgM M) (trR t (bI s) (bI a) (iI f) (iI e) M.2.1)) u), n + 1, w + 4, g)) := by
    simp (disch := omega) only [r219_0, r219_1, r219_4, r219_5, r219_8, r219_11, r219_12, r219_13, r219_16, r219_17, r219_19, r219_21, r219_23, r219_26, r219_29, r219_31, r219_33, r219_35, r219_38, r219_41, r219_42, r219_43, r219_46, md_0, bg, s_mTrack, q1, s_mis, hf, he, kl_n, kl_i, kl_r, kl_z, kl_l, kl_d, catS_0, catS_c, cat_i, cat_l, cat_d, cat_r, cat_n, kC_r, kC_x, Option.bind_some, Option.toList_some, Option.toList_none, List.cons_append, List.nil_append, gB0, gB1, gB2, gB3, gB4, rvB, nI_iI, i0, i1, l0_, wr_s, aup_s, and_true, true_and, and_self, eq_self, if_true, if_false, Nat.zero_le, Nat.reduceAdd, Nat.reduceLeDiff, gN_I, gN_L, gN_P, bI_0, bI_ok, z0, z1, Bool.true_eq, Bool.false_eq_true, not_true_eq_false, not_false_eq_true]
    simp (disch := omega) only [r219_47, r219_48, r219_49, r219_50, r219_53, r219_55, r219_56, m0, tr, e5, e6, kl_n, kl_i, kl_r, kl_z, kl_l, kl_d, catS_0, catS_c, cat_i, cat_l, cat_d, cat_r, cat_n, kC_r, kC_x, Option.bind_some, Option.toList_some, Option.toList_none, List.cons_append, List.nil_append, gB0, gB1, gB2, gB3, gB4, rvB, nI_iI, i0, i1, l0_, wr_s, aup_s, and_true, true_and, and_self, eq_self, if_true, if_false, Nat.zero_le, Nat.reduceAdd, Nat.reduceLeDiff, gN_I, gN_L, gN_P, bI_0, bI_ok, z0, z1, Bool.true_eq, Bool.false_eq_true, not_true_eq_false, not_false_eq_true]
    have st : ∀ {l6 l7 : Option Value}, L (d + 8) 219 58 [some (.ref y), some (.int (iI t)), some (.int (bI s)), some (.int (bI a)), some (.int (iI f)), some (.int (iI e)), l6, l7] [.ref n] (aup (mdW h y (bgM M)) n (aI .int 4 (fun _ => iI 0)), n + 1, w + 4, g) = L (d + 8) 219 92 [some (.ref y), some (.int (iI t)), some (.int (bI s)), some (.int (bI a)), some (.int (iI f)), some (.int (iI e)), l6, l7] [.ref n] (mdW (aup h n (aI .int 4 (n4 (bI s) (bI a) (iI f) (iI e)))) y (bgM M), n + 1, w + 4, g) := by
      intro l6 l7
      rw [← md_n hy]
      have i10 : ¬ iI 1 = iI 0 := by decide
      obtain z1 | z1 : bI s = iI 0 ∨ bI s = iI 1 := by
        by_cases q : s
        · exact Or.inr (if_pos q)
        · exact Or.inl (if_neg q)
      all_goals
        obtain z2 | z2 : bI a = iI 0 ∨ bI a = iI 1 := by
          by_cases q : a
          · exact Or.inr (if_pos q)
          · exact Or.inl (if_neg q)
      all_goals
        rw [z1, z2]
        simp (disch := omega) only [r219_58i, r219_58, r219_59, r219_60, r219_61, r219_64, r219_65, r219_68, r219_69, r219_70i, r219_70, r219_71, r219_72, r219_73, r219_76, r219_77, r219_80, r219_81, r219_82i, r219_82, r219_83, r219_84, r219_86, r219_87i, r219_87, r219_88, r219_89, r219_91, i10, aup_s, n4_0, n4_1, n4_2, n4_3, aup_2, kl_n, kl_i, kl_r, kl_z, kl_l, kl_d, catS_0, catS_c, cat_i, cat_l, cat_d, cat_r, cat_n, kC_r, kC_x, Option.bind_some, Option.toList_some, Option.toList_none, List.cons_append, List.nil_append, gB0, gB1, gB2, gB3, gB4, rvB, nI_iI, i0, i1, l0_, wr_s, aup_s, and_true, true_and, and_self, eq_self, if_true, if_false, Nat.zero_le, Nat.reduceAdd, Nat.reduceLeDiff, gN_I, gN_L, gN_P, bI_0, bI_ok, z0, z1, Bool.true_eq, Bool.false_eq_true, not_true_eq_false, not_false_eq_true]
        rfl
    rw [st]
    simp (disch := omega) only [r219_92, r219_94, r219_96, r219_97, r219_98, r219_101, r219_104, r219_105, r219_106, r219_107, r219_108, r219_109, r219_112, r219_113, r219_115, r219_118, m1, m2, gB1, iI_mul, iI_add, e1, cc2, dn, kl_n, kl_i, kl_r, kl_z, kl_l, kl_d, catS_0, catS_c, cat_i, cat_l, cat_d, cat_r, cat_n, kC_r, kC_x, Option.bind_some, Option.toList_some, Option.toList_none, List.cons_append, List.nil_append, gB0, gB1, gB2, gB3, gB4, rvB, nI_iI, i0, i1, l0_, wr_s, aup_s, and_true, true_and, and_self, eq_self, if_true, if_false, Nat.zero_le, Nat.reduceAdd, Nat.reduceLeDiff, gN_I, gN_L, gN_P, bI_0, bI_ok, z0, z1, Bool.true_eq, Bool.false_eq_true, not_true_eq_false, not_false_eq_true]
  rw [e219, hL, fin_mt hy]

theorem r_setTrack_1 {t x1 x2 f e : Int} (hy : y + 531 ≤ n) (b1 : -2147483648 ≤ t ∧ t < 2147483648) (hc : ¬ (0 ≤ t ∧ t ≤ 5)) : aE (d + 9) 219 [.ref y, .int (iI t), .int (iI x1), .int (iI x2), .int (iI f), .int (iI e)] (mdW h y M, n, w, g) = some (.inl (some (.int (iI 0))), (mdW h y (rfM 1 (bgM M)), n, w, g)) := by
  have bg := r_begin (d := d + 7) (n := n) (w := w) (g := g) (h := h) (y := y) (M := M)
  have m0 := md_0 (h := h) (y := y) (M := bgM M)
  have rf := r_refuse (d := d + 7) (h := h) (r := (n, w, g)) (y := y) (M := bgM M) (k := 1)
  have hF := eq_false hc
  have hL : L (d + 8) 219 0 [some (.ref y), some (.int (iI t)), some (.int (iI x1)), some (.int (iI x2)), some (.int (iI f)), some (.int (iI e)), none, none] [] (mdW h y M, n, w, g) = some (.inl (some (.int (iI 0))), (mdW h y (rfM 1 (bgM M)), n, w, g)) := by
    simp (disch := omega) only [r219_0, r219_1, r219_4, r219_5, r219_8, r219_11, r219_12, r219_13, r219_16, md_0, bg, m0, s_mTrack, hF, rf, kl_n, kl_i, kl_r, kl_z, kl_l, kl_d, catS_0, catS_c, cat_i, cat_l, cat_d, cat_r, cat_n, kC_r, kC_x, Option.bind_some, Option.toList_some, Option.toList_none, List.cons_append, List.nil_append, gB0, gB1, gB2, gB3, gB4, rvB, nI_iI, i0, i1, l0_, wr_s, aup_s, and_true, true_and, and_self, eq_self, if_true, if_false, Nat.zero_le, Nat.reduceAdd, Nat.reduceLeDiff, gN_I, gN_L, gN_P, bI_0, bI_ok, z0, z1, Bool.true_eq, Bool.false_eq_true, not_true_eq_false, not_false_eq_true]
    rfl
  rw [e219, hL, fin_mm hy]
theorem r_setTrack_2 {t x1 x2 f e : Int} (hy : y + 531 ≤ n) (ht : 0 ≤ t ∧ t ≤ 5) (b1 : -2147483648 ≤ f ∧ f < 2147483648) (b2 : -2147483648 ≤ e ∧ e < 2147483648) (hc : ¬ ((-24 ≤ f ∧ f ≤ 24) ∧ (-48 ≤ e ∧ e ≤ 48))) : aE (d + 9) 219 [.ref y, .int (iI t), .int (iI x1), .int (iI x2), .int (iI f), .int (iI e)] (mdW h y M, n, w, g) = some (.inl (some (.int (iI 0))), (mdW h y (rfM 2 (bgM M)), n, w, g)) := by
  have bg := r_begin (d := d + 7) (n := n) (w := w) (g := g) (h := h) (y := y) (M := M)
  have m0 := md_0 (h := h) (y := y) (M := bgM M)
  have rf := r_refuse (d := d + 7) (h := h) (r := (n, w, g)) (y := y) (M := bgM M) (k := 2)
  have rr : L (d + 8) 219 41 [some (.ref y), some (.int (iI t)), some (.int (iI x1)), some (.int (iI x2)), some (.int (iI f)), some (.int (iI e)), none, none] [] (mdW h y (bgM M), n, w, g) = some (.inl (some (.int (iI 0))), (mdW h y (rfM 2 (bgM M)), n, w, g)) := by
    simp (disch := omega) only [r219_41, r219_42, r219_43, r219_46, m0, rf, kl_n, kl_i, kl_r, kl_z, kl_l, kl_d, catS_0, catS_c, cat_i, cat_l, cat_d, cat_r, cat_n, kC_r, kC_x, Option.bind_some, Option.toList_some, Option.toList_none, List.cons_append, List.nil_append, gB0, gB1, gB2, gB3, gB4, rvB, nI_iI, i0, i1, l0_, wr_s, aup_s, and_true, true_and, and_self, eq_self, if_true, if_false, Nat.zero_le, Nat.reduceAdd, Nat.reduceLeDiff, gN_I, gN_L, gN_P, bI_0, bI_ok, z0, z1, Bool.true_eq, Bool.false_eq_true, not_true_eq_false, not_false_eq_true]
    rfl
  have hL : L (d + 8) 219 0 [some (.ref y), some (.int (iI t)), some (.int (iI x1)), some (.int (iI x2)), some (.int (iI f)), some (.int (iI e)), none, none] [] (mdW h y M, n, w, g) = some (.inl (some (.int (iI 0))), (mdW h y (rfM 2 (bgM M)), n, w, g)) := by
    simp (disch := omega) only [r219_0, r219_1, r219_4, r219_5, r219_8, r219_11, r219_12, r219_13, r219_16, r219_17, r219_19, r219_21, r219_23, r219_26, r219_29, r219_31, r219_33, r219_35, r219_38, md_0, bg, m0, s_mTrack, ht, s_mis, rr, ite_not, kl_n, kl_i, kl_r, kl_z, kl_l, kl_d, catS_0, catS_c, cat_i, cat_l, cat_d, cat_r, cat_n, kC_r, kC_x, Option.bind_some, Option.toList_some, Option.toList_none, List.cons_append, List.nil_append, gB0, gB1, gB2, gB3, gB4, rvB, nI_iI, i0, i1, l0_, wr_s, aup_s, and_true, true_and, and_self, eq_self, if_true, if_false, Nat.zero_le, Nat.reduceAdd, Nat.reduceLeDiff, gN_I, gN_L, gN_P, bI_0, bI_ok, z0, z1, Bool.true_eq, Bool.false_eq_true, not_true_eq_false, not_false_eq_true]
    repeat' split
    all_goals first
      | rfl
      | (exfalso; omega)
  rw [e219, hL, fin_mm hy]
theorem r_setLoop {v x k : Int} {u : Nat} (hy : y + 531 ≤ n) (hv : 0 ≤ v ∧ v ≤ 9599) (hx : v + 1 ≤ x ∧ x ≤ 9600) (hk : 0 ≤ k ∧ k ≤ 8) (hu : M.1.2.1 = iI u) (hb : u ≤ 20) (hU : ∀ i, i < 21 → M.2.2.2.1.1 i < 21) :
    aE (d + 9) 223 [.ref y, .int (iI v), .int (iI x), .int (iI k)] (mdW h y M, n, w, g) = some (.inl (some (.int (M.2.1 384))), (mdW h y (dnM (alM (bgM M) (lpR (if k = 0 then iI 0 else iI v) (if k = 0 then iI 0 else iI x) (iI k) M.2.1)) u), n + 1, w + 3, g)) := by
  obtain ⟨R, hR⟩ : ∃ R, R = n3 (if k = 0 then iI 0 else iI v) (if k = 0 then iI 0 else iI x) (iI k) := ⟨_, rfl⟩
  have e5 : (iI 3).toNatClampNeg = 3 := by decide
  have e6 : ¬ (iI 3 < iI 0 ∨ 60000000 < 3) := by decide
  have bg := r_begin (d := d + 7) (n := n) (w := w) (g := g) (h := h) (y := y) (M := M)
  have m0 := md_0 (h := h) (y := y) (M := bgM M)
  have m1 := md_0 (h := aup h n (aI .int 3 R)) (y := y) (M := bgM M)
  have m2 := md_0 (h := aup h n (aI .int 3 R)) (y := y) (M := alM (bgM M) (va_cpy R M.2.1 0 382 3))
  have m3 : mdW h y (bgM M) (y + 1) = some (aI .int 385 M.2.1) := md_1
  have g4 : gI (some (aI .int 385 M.2.1)) (iI 384) = some (M.2.1 384) := gI_I (N := 385) (f := M.2.1) (j := 384) (by omega) (by omega) (by omega)
  have hn : mdW (aup h n (aI .int 3 R)) y (bgM M) n = some (aI .int 3 R) := by rw [md_out hy, aup_s]
  have cc := s_acopy (h := mdW (aup h n (aI .int 3 R)) y (bgM M)) (n := n + 1) (r := (w + 3, g)) (s := n) (t := y + 1) (sp := 0) (dp := 382) (m := 3) hn md_1 (by omega) (by omega) (by omega) (by omega)
  rw [md_a] at cc
  have cc2 : aPrim 1001 [.ref n, .int (iI 0), .ref (y + 1), .int (iI 382), .int (iI 3)] (mdW (aup h n (aI .int 3 R)) y (bgM M), n + 1, w + 3, g) = some (.inl none, (mdW (aup h n (aI .int 3 R)) y (alM (bgM M) (va_cpy R M.2.1 0 382 3)), n + 1, w + 3, g)) := cc
  have dn := r_done (d := d + 1) (n := n + 1) (w := w + 3) (g := g) (h := aup h n (aI .int 3 R)) (y := y) (M := alM (bgM M) (va_cpy R M.2.1 0 382 3)) (t := M.2.1 384) hu hb hU
  have hL : L (d + 8) 223 0 [some (.ref y), some (.int (iI v)), some (.int (iI x)), some (.int (iI k)), none, none] [] (mdW h y M, n, w, g) = some (.inl (some (.int (M.2.1 384))), (mdW (aup h n (aI .int 3 R)) y (dnM (alM (bgM M) (va_cpy R M.2.1 0 382 3)) u), n + 1, w + 3, g)) := by
    simp (disch := omega) only [r223_0, r223_1, r223_4, r223_5, r223_6, r223_9, r223_12, r223_15, r223_16, r223_17, r223_18, r223_19, r223_22, r223_25, r223_28, r223_29, r223_30, r223_32, r223_35, r223_38, r223_39, r223_40, r223_43, md_0, bg, s_mis, iI_add, hv, hx, hk, kl_n, kl_i, kl_r, kl_z, kl_l, kl_d, catS_0, catS_c, cat_i, cat_l, cat_d, cat_r, cat_n, kC_r, kC_x, Option.bind_some, Option.toList_some, Option.toList_none, List.cons_append, List.nil_append, gB0, gB1, gB2, gB3, gB4, rvB, nI_iI, i0, i1, l0_, wr_s, aup_s, and_true, true_and, and_self, eq_self, if_true, if_false, Nat.zero_le, Nat.reduceAdd, Nat.reduceLeDiff, gN_I, gN_L, gN_P, bI_0, bI_ok, z0, z1, Bool.true_eq, Bool.false_eq_true, not_true_eq_false, not_false_eq_true]
    simp (disch := omega) only [r223_44, r223_45, r223_48, r223_51, r223_52, r223_54, r223_55, m0, gB1, m3, g4, e5, e6, kl_n, kl_i, kl_r, kl_z, kl_l, kl_d, catS_0, catS_c, cat_i, cat_l, cat_d, cat_r, cat_n, kC_r, kC_x, Option.bind_some, Option.toList_some, Option.toList_none, List.cons_append, List.nil_append, gB0, gB1, gB2, gB3, gB4, rvB, nI_iI, i0, i1, l0_, wr_s, aup_s, and_true, true_and, and_self, eq_self, if_true, if_false, Nat.zero_le, Nat.reduceAdd, Nat.reduceLeDiff, gN_I, gN_L, gN_P, bI_0, bI_ok, z0, z1, Bool.true_eq, Bool.false_eq_true, not_true_eq_false, not_false_eq_true]
    have st : ∀ {l4 l5 : Option Value}, L (d + 8) 223 57 [some (.ref y), some (.int (iI v)), some (.int (iI x)), some (.int (iI k)), l4, l5] [.ref n] (aup (mdW h y (bgM M)) n (aI .int 3 (fun _ => iI 0)), n + 1, w + 3, g) = L (d + 8) 223 85 [some (.ref y), some (.int (iI v)), some (.int (iI x)), some (.int (iI k)), l4, l5] [.ref n] (mdW (aup h n (aI .int 3 R)) y (bgM M), n + 1, w + 3, g) := by
      intro l4 l5
      rw [← md_n hy, hR]
      by_cases c : k = 0
      · rw [if_pos c, if_pos c]
        have cT := eq_true c
        simp (disch := omega) only [r223_57i, r223_57, r223_58, r223_59, r223_60, r223_63, r223_64, r223_67, r223_68, r223_69i, r223_69, r223_70, r223_71, r223_72, r223_75, r223_76, r223_79, r223_80, r223_81i, r223_81, r223_82, r223_83, r223_84, iI_eq, cT, aup_s, n3_0, n3_1, n3_2, aup_2, kl_n, kl_i, kl_r, kl_z, kl_l, kl_d, catS_0, catS_c, cat_i, cat_l, cat_d, cat_r, cat_n, kC_r, kC_x, Option.bind_some, Option.toList_some, Option.toList_none, List.cons_append, List.nil_append, gB0, gB1, gB2, gB3, gB4, rvB, nI_iI, i0, i1, l0_, wr_s, aup_s, and_true, true_and, and_self, eq_self, if_true, if_false, Nat.zero_le, Nat.reduceAdd, Nat.reduceLeDiff, gN_I, gN_L, gN_P, bI_0, bI_ok, z0, z1, Bool.true_eq, Bool.false_eq_true, not_true_eq_false, not_false_eq_true]
        rfl
      · rw [if_neg c, if_neg c]
        have cF := eq_false c
        simp (disch := omega) only [r223_57i, r223_57, r223_58, r223_59, r223_60, r223_63, r223_64, r223_67, r223_68, r223_69i, r223_69, r223_70, r223_71, r223_72, r223_75, r223_76, r223_79, r223_80, r223_81i, r223_81, r223_82, r223_83, r223_84, iI_eq, cF, aup_s, n3_0, n3_1, n3_2, aup_2, kl_n, kl_i, kl_r, kl_z, kl_l, kl_d, catS_0, catS_c, cat_i, cat_l, cat_d, cat_r, cat_n, kC_r, kC_x, Option.bind_some, Option.toList_some, Option.toList_none, List.cons_append, List.nil_append, gB0, gB1, gB2, gB3, gB4, rvB, nI_iI, i0, i1, l0_, wr_s, aup_s, and_true, true_and, and_self, eq_self, if_true, if_false, Nat.zero_le, Nat.reduceAdd, Nat.reduceLeDiff, gN_I, gN_L, gN_P, bI_0, bI_ok, z0, z1, Bool.true_eq, Bool.false_eq_true, not_true_eq_false, not_false_eq_true]
        rfl
    rw [st]
    simp (disch := omega) only [r223_85, r223_87, r223_89, r223_90, r223_91, r223_94, r223_97, r223_98, r223_101, r223_102, r223_104, r223_107, m1, m2, gB1, cc2, dn, kl_n, kl_i, kl_r, kl_z, kl_l, kl_d, catS_0, catS_c, cat_i, cat_l, cat_d, cat_r, cat_n, kC_r, kC_x, Option.bind_some, Option.toList_some, Option.toList_none, List.cons_append, List.nil_append, gB0, gB1, gB2, gB3, gB4, rvB, nI_iI, i0, i1, l0_, wr_s, aup_s, and_true, true_and, and_self, eq_self, if_true, if_false, Nat.zero_le, Nat.reduceAdd, Nat.reduceLeDiff, gN_I, gN_L, gN_P, bI_0, bI_ok, z0, z1, Bool.true_eq, Bool.false_eq_true, not_true_eq_false, not_false_eq_true]
  rw [e223, hL, fin_mt hy, hR]
  rfl
theorem r_setLoop_1 {v x k : Int} (hy : y + 531 ≤ n) (b1 : -2147483648 ≤ v ∧ v < 2147483648) (b2 : -2147483648 ≤ x ∧ x < 2147483648) (b3 : -2147483648 ≤ k ∧ k < 2147483648) (hc : ¬ ((0 ≤ v ∧ v ≤ 9599) ∧ (v + 1 ≤ x ∧ x ≤ 9600) ∧ (0 ≤ k ∧ k ≤ 8))) : aE (d + 9) 223 [.ref y, .int (iI v), .int (iI x), .int (iI k)] (mdW h y M, n, w, g) = some (.inl (some (.int (iI 0))), (mdW h y (rfM 1 (bgM M)), n, w, g)) := by
  have bg := r_begin (d := d + 7) (n := n) (w := w) (g := g) (h := h) (y := y) (M := M)
  have m0 := md_0 (h := h) (y := y) (M := bgM M)
  have rf := r_refuse (d := d + 7) (h := h) (r := (n, w, g)) (y := y) (M := bgM M) (k := 1)
  have rr : L (d + 8) 223 38 [some (.ref y), some (.int (iI v)), some (.int (iI x)), some (.int (iI k)), none, none] [] (mdW h y (bgM M), n, w, g) = some (.inl (some (.int (iI 0))), (mdW h y (rfM 1 (bgM M)), n, w, g)) := by
    simp (disch := omega) only [r223_38, r223_39, r223_40, r223_43, m0, rf, kl_n, kl_i, kl_r, kl_z, kl_l, kl_d, catS_0, catS_c, cat_i, cat_l, cat_d, cat_r, cat_n, kC_r, kC_x, Option.bind_some, Option.toList_some, Option.toList_none, List.cons_append, List.nil_append, gB0, gB1, gB2, gB3, gB4, rvB, nI_iI, i0, i1, l0_, wr_s, aup_s, and_true, true_and, and_self, eq_self, if_true, if_false, Nat.zero_le, Nat.reduceAdd, Nat.reduceLeDiff, gN_I, gN_L, gN_P, bI_0, bI_ok, z0, z1, Bool.true_eq, Bool.false_eq_true, not_true_eq_false, not_false_eq_true]
    rfl
  have hL : L (d + 8) 223 0 [some (.ref y), some (.int (iI v)), some (.int (iI x)), some (.int (iI k)), none, none] [] (mdW h y M, n, w, g) = some (.inl (some (.int (iI 0))), (mdW h y (rfM 1 (bgM M)), n, w, g)) := by
    by_cases q1 : 0 ≤ v ∧ v ≤ 9599
    · simp (disch := omega) only [r223_0, r223_1, r223_4, r223_5, r223_6, r223_9, r223_12, r223_15, r223_16, r223_17, r223_18, r223_19, r223_22, r223_25, r223_28, r223_29, r223_30, r223_32, r223_35, md_0, bg, m0, iI_add, q1, s_mis, rr, ite_not, kl_n, kl_i, kl_r, kl_z, kl_l, kl_d, catS_0, catS_c, cat_i, cat_l, cat_d, cat_r, cat_n, kC_r, kC_x, Option.bind_some, Option.toList_some, Option.toList_none, List.cons_append, List.nil_append, gB0, gB1, gB2, gB3, gB4, rvB, nI_iI, i0, i1, l0_, wr_s, aup_s, and_true, true_and, and_self, eq_self, if_true, if_false, Nat.zero_le, Nat.reduceAdd, Nat.reduceLeDiff, gN_I, gN_L, gN_P, bI_0, bI_ok, z0, z1, Bool.true_eq, Bool.false_eq_true, not_true_eq_false, not_false_eq_true]
      repeat' split
      all_goals first
        | rfl
        | (exfalso; omega)
    · simp (disch := omega) only [r223_0, r223_1, r223_4, r223_5, r223_6, r223_9, r223_12, r223_15, r223_16, r223_17, r223_18, r223_19, r223_22, r223_25, r223_28, r223_29, r223_30, r223_32, r223_35, md_0, bg, m0, q1, s_mis, rr, kl_n, kl_i, kl_r, kl_z, kl_l, kl_d, catS_0, catS_c, cat_i, cat_l, cat_d, cat_r, cat_n, kC_r, kC_x, Option.bind_some, Option.toList_some, Option.toList_none, List.cons_append, List.nil_append, gB0, gB1, gB2, gB3, gB4, rvB, nI_iI, i0, i1, l0_, wr_s, aup_s, and_true, true_and, and_self, eq_self, if_true, if_false, Nat.zero_le, Nat.reduceAdd, Nat.reduceLeDiff, gN_I, gN_L, gN_P, bI_0, bI_ok, z0, z1, Bool.true_eq, Bool.false_eq_true, not_true_eq_false, not_false_eq_true]
  rw [e223, hL, fin_mm hy]
end
