/-! ===== what would move, the best step; sums of notes ===== -/
/-- how many notes of a range are off the grid -/
def ofN (t v u : Int) (F : Nat → Nat) (n s : Nat) : Nat := cntP (qnM t v u s 0 100) F n
def stN : Nat → Nat
  | 0 => 96
  | 1 => 48
  | 2 => 32
  | 3 => 24
  | 4 => 16
  | 5 => 12
  | 6 => 8
  | _ => 6
theorem stN_f : ∀ j, j < 8 → st_f j = iI (stN j) := by decide
theorem stN_b : ∀ j, 1 ≤ stN j ∧ stN j ≤ 384 := fun j => by
  unfold stN
  split <;> omega
/-- the best of the first steps, and how many it moves -/
def fsR (C : Nat → Nat) : Nat → Nat × Nat
  | 0 => (0, 61)
  | k + 1 => if C (stN k) < (fsR C k).2 then (stN k, C (stN k)) else fsR C k
theorem fsR_b (C : Nat → Nat) (hC : ∀ s, C s ≤ 60) : ∀ k, (fsR C k).1 ≤ 384 ∧ (fsR C k).2 ≤ 61
  | 0 => ⟨by show 0 ≤ 384; omega, by show 61 ≤ 61; omega⟩
  | k + 1 => by
    have ih := fsR_b C hC k
    have h1 := stN_b k
    have h2 := hC (stN k)
    unfold fsR
    split
    · show stN k ≤ 384 ∧ C (stN k) ≤ 61
      omega
    · exact ih
section
variable {d n w : Nat} {g : Nat × Nat} {h : aHf} {x : Nat} {W : Dk}
theorem of_loop {t v u : Int} {s : Nat} (hO : dkOk W) (hr : rgOk t v u) (hs : 1 ≤ s ∧ s ≤ 384) : ∀ m i : Nat, i + m = W.1.1.1 → ∀ l7 l8 l9 : Option Value, L (d + 5) 77 6 [some (.ref x), some (.int (iI t)), some (.int (iI v)), some (.int (iI u)), some (.int (iI s)), some (.int (iI (ofN t v u W.1.1.2 i s))), some (.int (iI i)), l7, l8, l9] [] (dkW h x W, n, w, g) =
    some (.inl (some (.int (iI (ofN t v u W.1.1.2 W.1.1.1 s)))), (dkW h x W, n, w, g)) := by
  have hn := hO.1.1
  intro m
  induction m with
  | zero =>
    intro i hi l7 l8 l9
    obtain rfl : i = W.1.1.1 := by omega
    have c1 : (W.1.1.1 : Int) ≤ W.1.1.1 := by omega
    rw [r77_6]
    simp (disch := omega) only [r77_0, r77_1, r77_3, r77_4, r77_8, r77_9, r77_12, r77_15, r77_18, r77_21, r77_22, r77_25, r77_28, r77_30, r77_33, r77_35, r77_37, r77_40, r77_42, r77_44, r77_45, r77_46, r77_47, r77_50, r77_53, r77_55, r77_57, r77_58, r77_60, r77_63, r77_65, r77_68, r77_71, r77_74, r77_77, r77_79, dk_0, dk_1, dk_2, k_size, iI_le, c1, kl_n, kl_i, kl_r, kl_z, kl_l, kl_d, catS_0, catS_c, cat_i, cat_l, cat_d, cat_r, cat_n, kC_r, kC_x, Option.bind_some, Option.toList_some, Option.toList_none, List.cons_append, List.nil_append, gB0, gB1, gB2, gB3, gB4, rvB, nI_iI, i0, i1, l0_, wr_s, aup_s, and_true, true_and, and_self, eq_self, if_true, if_false, Nat.zero_le, Nat.reduceAdd, Nat.reduceLeDiff, gN_I, gN_L, gN_P, bI_0, bI_ok, z0, z1, Bool.true_eq, Bool.false_eq_true, not_true_eq_false, not_false_eq_true]
  | succ m ih =>
    intro i hi l7 l8 l9
    have c1 : ¬ (W.1.1.1 : Int) ≤ i := by omega
    have e1 : (i : Int) + 1 = ((i + 1 : Nat) : Int) := by omega
    have hc := hO.1.2.1 i
    have a1 := cS_lt (W.1.1.2 i)
    have a2 : cS (W.1.1.2 i) ≤ 16383 := by omega
    have hb := drI_b (s := s) (p := 0) (q := 100) a2 (by omega)
    have h9 := fun l4 l5 l6 => ih (i + 1) (by omega) l4 l5 l6
    have dr := s_drawn (d := d + 1) (H := dkW h x W) (r := (n, w, g)) (p := 0) (q := 100) a2 hs (by omega) (by omega)
    rw [show ((0 : Nat) : Int) = 0 from rfl, show ((100 : Nat) : Int) = 100 from rfl] at dr
    rw [r77_6]
    by_cases q0 : cIn (W.1.1.2 i) t v u
    · have qT := eq_true q0
      by_cases q5 : drI (cS (W.1.1.2 i)) s 0 100 = cS (W.1.1.2 i)
      · have qf : ¬ qnM t v u s 0 100 (W.1.1.2 i) = true := fun z => (of_decide_eq_true z).2 q5
        have e3 : ofN t v u W.1.1.2 i s = ofN t v u W.1.1.2 (i + 1) s := (cntP_f qf).symm
        rw [← e3] at h9
        simp (disch := omega) only [r77_0, r77_1, r77_3, r77_4, r77_8, r77_9, r77_12, r77_15, r77_18, r77_21, r77_22, r77_25, r77_28, r77_30, r77_33, r77_35, r77_37, r77_40, r77_42, r77_44, r77_45, r77_46, r77_47, r77_50, r77_53, r77_55, r77_57, r77_58, r77_60, r77_63, r77_65, r77_68, r77_71, r77_74, r77_77, r77_79, dk_0, dk_1, dk_2, k_size, iI_le, c1, k_codeAt, s_start hc, dr, s_isIn hc, qT, q5, iI_eq, iI_add, e1, h9, kl_n, kl_i, kl_r, kl_z, kl_l, kl_d, catS_0, catS_c, cat_i, cat_l, cat_d, cat_r, cat_n, kC_r, kC_x, Option.bind_some, Option.toList_some, Option.toList_none, List.cons_append, List.nil_append, gB0, gB1, gB2, gB3, gB4, rvB, nI_iI, i0, i1, l0_, wr_s, aup_s, and_true, true_and, and_self, eq_self, if_true, if_false, Nat.zero_le, Nat.reduceAdd, Nat.reduceLeDiff, gN_I, gN_L, gN_P, bI_0, bI_ok, z0, z1, Bool.true_eq, Bool.false_eq_true, not_true_eq_false, not_false_eq_true]
      · have qf : qnM t v u s 0 100 (W.1.1.2 i) = true := decide_eq_true ⟨q0, q5⟩
        have e3 : (ofN t v u W.1.1.2 i s : Int) + 1 = (ofN t v u W.1.1.2 (i + 1) s : Int) := by
          have : ofN t v u W.1.1.2 (i + 1) s = ofN t v u W.1.1.2 i s + 1 := cntP_t qf
          omega
        simp (disch := omega) only [r77_0, r77_1, r77_3, r77_4, r77_8, r77_9, r77_12, r77_15, r77_18, r77_21, r77_22, r77_25, r77_28, r77_30, r77_33, r77_35, r77_37, r77_40, r77_42, r77_44, r77_45, r77_46, r77_47, r77_50, r77_53, r77_55, r77_57, r77_58, r77_60, r77_63, r77_65, r77_68, r77_71, r77_74, r77_77, r77_79, dk_0, dk_1, dk_2, k_size, iI_le, c1, k_codeAt, s_start hc, dr, s_isIn hc, qT, q5, iI_eq, iI_add, e3, e1, h9, kl_n, kl_i, kl_r, kl_z, kl_l, kl_d, catS_0, catS_c, cat_i, cat_l, cat_d, cat_r, cat_n, kC_r, kC_x, Option.bind_some, Option.toList_some, Option.toList_none, List.cons_append, List.nil_append, gB0, gB1, gB2, gB3, gB4, rvB, nI_iI, i0, i1, l0_, wr_s, aup_s, and_true, true_and, and_self, eq_self, if_true, if_false, Nat.zero_le, Nat.reduceAdd, Nat.reduceLeDiff, gN_I, gN_L, gN_P, bI_0, bI_ok, z0, z1, Bool.true_eq, Bool.false_eq_true, not_true_eq_false, not_false_eq_true]
    · have qT := eq_false q0
      have qf : ¬ qnM t v u s 0 100 (W.1.1.2 i) = true := fun z => q0 (of_decide_eq_true z).1
      have e3 : ofN t v u W.1.1.2 i s = ofN t v u W.1.1.2 (i + 1) s := (cntP_f qf).symm
      rw [← e3] at h9
      simp (disch := omega) only [r77_0, r77_1, r77_3, r77_4, r77_8, r77_9, r77_12, r77_15, r77_18, r77_21, r77_22, r77_25, r77_28, r77_30, r77_33, r77_35, r77_37, r77_40, r77_42, r77_44, r77_45, r77_46, r77_47, r77_50, r77_53, r77_55, r77_57, r77_58, r77_60, r77_63, r77_65, r77_68, r77_71, r77_74, r77_77, r77_79, dk_0, dk_1, dk_2, k_size, iI_le, c1, k_codeAt, s_start hc, s_isIn hc, qT, iI_add, e1, h9, kl_n, kl_i, kl_r, kl_z, kl_l, kl_d, catS_0, catS_c, cat_i, cat_l, cat_d, cat_r, cat_n, kC_r, kC_x, Option.bind_some, Option.toList_some, Option.toList_none, List.cons_append, List.nil_append, gB0, gB1, gB2, gB3, gB4, rvB, nI_iI, i0, i1, l0_, wr_s, aup_s, and_true, true_and, and_self, eq_self, if_true, if_false, Nat.zero_le, Nat.reduceAdd, Nat.reduceLeDiff, gN_I, gN_L, gN_P, bI_0, bI_ok, z0, z1, Bool.true_eq, Bool.false_eq_true, not_true_eq_false, not_false_eq_true]
theorem s_countOff {t v u : Int} {s : Nat} (hO : dkOk W) (hr : rgOk t v u) (hs : 1 ≤ s ∧ s ≤ 384) : aE (d + 6) 77 [.ref x, .int (iI t), .int (iI v), .int (iI u), .int (iI s)] (dkW h x W, n, w, g) =
    some (.inl (some (.int (iI (ofN t v u W.1.1.2 W.1.1.1 s)))), (dkW h x W, n, w, g)) := by
  have hl := of_loop (d := d) (n := n) (w := w) (g := g) (h := h) (x := x) hO hr hs W.1.1.1 0 (by omega) none none none
  rw [show ((0 : Nat) : Int) = 0 from rfl, show ((ofN t v u W.1.1.2 0 s : Nat) : Int) = 0 from rfl] at hl
  simp only [e77, r77_0, r77_1, r77_3, r77_4, r77_8, r77_9, r77_12, r77_15, r77_18, r77_21, r77_22, r77_25, r77_28, r77_30, r77_33, r77_35, r77_37, r77_40, r77_42, r77_44, r77_45, r77_46, r77_47, r77_50, r77_53, r77_55, r77_57, r77_58, r77_60, r77_63, r77_65, r77_68, r77_71, r77_74, r77_77, r77_79, hl, kl_n, kl_i, kl_r, kl_z, kl_l, kl_d, catS_0, catS_c, cat_i, cat_l, cat_d, cat_r, cat_n, kC_r, kC_x, Option.bind_some, Option.toList_some, Option.toList_none, List.cons_append, List.nil_append, gB0, gB1, gB2, gB3, gB4, rvB, nI_iI, i0, i1, l0_, wr_s, aup_s, and_true, true_and, and_self, eq_self, if_true, if_false, Nat.zero_le, Nat.reduceAdd, Nat.reduceLeDiff, gN_I, gN_L, gN_P, bI_0, bI_ok, z0, z1, Bool.true_eq, Bool.false_eq_true, not_true_eq_false, not_false_eq_true]
theorem s_wouldMove {t v u : Int} {s : Nat} (hO : dkOk W) (hr : rgOk t v u) (hs : 1 ≤ s ∧ s ≤ 384) : aE (d + 12) 78 [.ref x, .int (iI t), .int (iI v), .int (iI u), .int (iI s)] (dkW h x W, n, w, g) =
    some (.inl (some (.int (iI (ofN t v u W.1.1.2 W.1.1.1 s)))), (dkW h x W, n, w, g)) := by
  have hr2 : rgOk t v u := hr
  unfold rgOk at hr2
  have q1 := eq_true hr2
  have q2 : (1 : Int) ≤ s ∧ (s : Int) ≤ 384 := by omega
  simp (disch := omega) only [e78, r78_0, r78_1, r78_2, r78_3, r78_6, r78_9, r78_11, r78_12, r78_15, r78_18, r78_21, r78_31, r78_32, r78_33, r78_34, r78_35, r78_37, r78_40, s_isRange, q1, s_isWithin, q2, dk_0, s_countOff hO hr hs, kl_n, kl_i, kl_r, kl_z, kl_l, kl_d, catS_0, catS_c, cat_i, cat_l, cat_d, cat_r, cat_n, kC_r, kC_x, Option.bind_some, Option.toList_some, Option.toList_none, List.cons_append, List.nil_append, gB0, gB1, gB2, gB3, gB4, rvB, nI_iI, i0, i1, l0_, wr_s, aup_s, and_true, true_and, and_self, eq_self, if_true, if_false, Nat.zero_le, Nat.reduceAdd, Nat.reduceLeDiff, gN_I, gN_L, gN_P, bI_0, bI_ok, z0, z1, Bool.true_eq, Bool.false_eq_true, not_true_eq_false, not_false_eq_true]
theorem s_wouldMove_1 {t v u s : Int} (b1 : -2147483648 ≤ t ∧ t < 2147483648) (b2 : -2147483648 ≤ v ∧ v < 2147483648) (b3 : -2147483648 ≤ u ∧ u < 2147483648) (b4 : -2147483648 ≤ s ∧ s < 2147483648) (hc : ¬ (rgOk t v u ∧ 1 ≤ s ∧ s ≤ 384)) :
    aE (d + 12) 78 [.ref x, .int (iI t), .int (iI v), .int (iI u), .int (iI s)] (dkW h x W, n, w, g) = some (.inr "java/lang/IllegalArgumentException", (dkW h x W, n + 1, w + 6, g)) := by
  have c8 : 8 ≤ d + 11 := by omega
  simp (disch := omega) only [e78, r78_0, r78_1, r78_2, r78_3, r78_6, r78_9, r78_11, r78_12, r78_15, r78_18, r78_21, s_isRange, s_isWithin, c8, ite_not, kl_n, kl_i, kl_r, kl_z, kl_l, kl_d, catS_0, catS_c, cat_i, cat_l, cat_d, cat_r, cat_n, kC_r, kC_x, Option.bind_some, Option.toList_some, Option.toList_none, List.cons_append, List.nil_append, gB0, gB1, gB2, gB3, gB4, rvB, nI_iI, i0, i1, l0_, wr_s, aup_s, and_true, true_and, and_self, eq_self, if_true, if_false, Nat.zero_le, Nat.reduceAdd, Nat.reduceLeDiff, gN_I, gN_L, gN_P, bI_0, bI_ok, z0, z1, Bool.true_eq, Bool.false_eq_true, not_true_eq_false, not_false_eq_true]
  by_cases q : -1 ≤ t ∧ t ≤ 5 ∧ 0 ≤ v ∧ v < u ∧ u ≤ 9600
  · rw [if_pos q, if_neg (fun z => hc ⟨q, z⟩)]
  · rw [if_neg q]
theorem fs_loop {t v u : Int} {f : Nat → Int32} (hO : dkOk W) (hr : rgOk t v u) (hq : dkW h x W g.1 = some (aI .float 8 f)) (hf : ∀ j, j < 8 → f j = st_f j) : ∀ m i : Nat, i + m = 8 → ∀ l7 : Option Value, L (d + 7) 80 10 [some (.ref x), some (.int (iI t)), some (.int (iI v)), some (.int (iI u)), some (.int (iI (fsR (ofN t v u W.1.1.2 W.1.1.1) i).1)), some (.int (iI (fsR (ofN t v u W.1.1.2 W.1.1.1) i).2)), some (.int (iI i)), l7] [] (dkW h x W, n, w, g) =
    some (.inl (some (.int (iI (fsR (ofN t v u W.1.1.2 W.1.1.1) 8).1))), (dkW h x W, n, w, g)) := by
  have hn := hO.1.1
  have hC : ∀ s, ofN t v u W.1.1.2 W.1.1.1 s ≤ 60 := fun s => Nat.le_trans (cntP_le _ _ _) hn
  intro m
  induction m with
  | zero =>
    intro i hi l7
    obtain rfl : i = 8 := by omega
    have c1 : (8 : Int) ≤ ((8 : Nat) : Int) := by omega
    rw [r80_10]
    simp (disch := omega) only [r80_0, r80_1, r80_3, r80_5, r80_7, r80_8, r80_12, r80_15, r80_16, r80_19, r80_20, r80_21, r80_22, r80_23, r80_26, r80_28, r80_29, r80_32, r80_34, r80_36, r80_38, r80_41, r80_43, r80_45, r80_48, r80_50, r80_51, r80_53, r80_56, r80_59, r80_61, hq, gN_I, iI_le, c1, kl_n, kl_i, kl_r, kl_z, kl_l, kl_d, catS_0, catS_c, cat_i, cat_l, cat_d, cat_r, cat_n, kC_r, kC_x, Option.bind_some, Option.toList_some, Option.toList_none, List.cons_append, List.nil_append, gB0, gB1, gB2, gB3, gB4, rvB, nI_iI, i0, i1, l0_, wr_s, aup_s, and_true, true_and, and_self, eq_self, if_true, if_false, Nat.zero_le, Nat.reduceAdd, Nat.reduceLeDiff, gN_I, gN_L, gN_P, bI_0, bI_ok, z0, z1, Bool.true_eq, Bool.false_eq_true, not_true_eq_false, not_false_eq_true]
    rfl
  | succ m ih =>
    intro i hi l7
    have c1 : ¬ (((8 : Nat) : Int)) ≤ (i : Int) := by omega
    have e1 : (i : Int) + 1 = ((i + 1 : Nat) : Int) := by omega
    have hb := fsR_b (ofN t v u W.1.1.2 W.1.1.1) hC i
    have hs := stN_b i
    have hcs := hC (stN i)
    have h9 := fun l4 => ih (i + 1) (by omega) l4
    have gi : gI (some (aI .float 8 f)) (iI i) = some (iI (stN i)) := by
      rw [gI_F (by omega) (by omega) (by omega), Int.toNat_natCast, hf i (by omega), stN_f i (by omega)]
    rw [r80_10]
    by_cases q : ofN t v u W.1.1.2 W.1.1.1 (stN i) < (fsR (ofN t v u W.1.1.2 W.1.1.1) i).2
    · have q2 : ¬ ((fsR (ofN t v u W.1.1.2 W.1.1.1) i).2 : Int) ≤ (ofN t v u W.1.1.2 W.1.1.1 (stN i) : Int) := by omega
      have e4 : fsR (ofN t v u W.1.1.2 W.1.1.1) (i + 1) = (stN i, ofN t v u W.1.1.2 W.1.1.1 (stN i)) := if_pos q
      rw [e4] at h9
      simp (disch := omega) only [r80_0, r80_1, r80_3, r80_5, r80_7, r80_8, r80_12, r80_15, r80_16, r80_19, r80_20, r80_21, r80_22, r80_23, r80_26, r80_28, r80_29, r80_32, r80_34, r80_36, r80_38, r80_41, r80_43, r80_45, r80_48, r80_50, r80_51, r80_53, r80_56, r80_59, r80_61, hq, gN_I, iI_le, c1, gi, dk_0, s_countOff hO hr hs, q2, iI_add, e1, h9, kl_n, kl_i, kl_r, kl_z, kl_l, kl_d, catS_0, catS_c, cat_i, cat_l, cat_d, cat_r, cat_n, kC_r, kC_x, Option.bind_some, Option.toList_some, Option.toList_none, List.cons_append, List.nil_append, gB0, gB1, gB2, gB3, gB4, rvB, nI_iI, i0, i1, l0_, wr_s, aup_s, and_true, true_and, and_self, eq_self, if_true, if_false, Nat.zero_le, Nat.reduceAdd, Nat.reduceLeDiff, gN_I, gN_L, gN_P, bI_0, bI_ok, z0, z1, Bool.true_eq, Bool.false_eq_true, not_true_eq_false, not_false_eq_true]
    · have q2 : ((fsR (ofN t v u W.1.1.2 W.1.1.1) i).2 : Int) ≤ (ofN t v u W.1.1.2 W.1.1.1 (stN i) : Int) := by omega
      have e4 : fsR (ofN t v u W.1.1.2 W.1.1.1) (i + 1) = fsR (ofN t v u W.1.1.2 W.1.1.1) i := if_neg q
      rw [e4] at h9
      simp (disch := omega) only [r80_0, r80_1, r80_3, r80_5, r80_7, r80_8, r80_12, r80_15, r80_16, r80_19, r80_20, r80_21, r80_22, r80_23, r80_26, r80_28, r80_29, r80_32, r80_34, r80_36, r80_38, r80_41, r80_43, r80_45, r80_48, r80_50, r80_51, r80_53, r80_56, r80_59, r80_61, hq, gN_I, iI_le, c1, gi, dk_0, s_countOff hO hr hs, q2, iI_add, e1, h9, kl_n, kl_i, kl_r, kl_z, kl_l, kl_d, catS_0, catS_c, cat_i, cat_l, cat_d, cat_r, cat_n, kC_r, kC_x, Option.bind_some, Option.toList_some, Option.toList_none, List.cons_append, List.nil_append, gB0, gB1, gB2, gB3, gB4, rvB, nI_iI, i0, i1, l0_, wr_s, aup_s, and_true, true_and, and_self, eq_self, if_true, if_false, Nat.zero_le, Nat.reduceAdd, Nat.reduceLeDiff, gN_I, gN_L, gN_P, bI_0, bI_ok, z0, z1, Bool.true_eq, Bool.false_eq_true, not_true_eq_false, not_false_eq_true]
theorem s_fitting {t v u : Int} {f : Nat → Int32} (hO : dkOk W) (hr : rgOk t v u) (hq : dkW h x W g.1 = some (aI .float 8 f)) (hf : ∀ j, j < 8 → f j = st_f j) : aE (d + 8) 80 [.ref x, .int (iI t), .int (iI v), .int (iI u)] (dkW h x W, n, w, g) =
    some (.inl (some (.int (iI (fsR (ofN t v u W.1.1.2 W.1.1.1) 8).1))), (dkW h x W, n, w, g)) := by
  have hl := fs_loop (d := d) (n := n) (w := w) (g := g) (h := h) (x := x) hO hr hq hf 8 0 (by omega) none
  rw [show ((0 : Nat) : Int) = 0 from rfl, show (((fsR (ofN t v u W.1.1.2 W.1.1.1) 0).1 : Nat) : Int) = 0 from rfl, show (((fsR (ofN t v u W.1.1.2 W.1.1.1) 0).2 : Nat) : Int) = 61 from rfl] at hl
  simp only [e80, r80_0, r80_1, r80_3, r80_5, r80_7, r80_8, r80_12, r80_15, r80_16, r80_19, r80_20, r80_21, r80_22, r80_23, r80_26, r80_28, r80_29, r80_32, r80_34, r80_36, r80_38, r80_41, r80_43, r80_45, r80_48, r80_50, r80_51, r80_53, r80_56, r80_59, r80_61, hl, kl_n, kl_i, kl_r, kl_z, kl_l, kl_d, catS_0, catS_c, cat_i, cat_l, cat_d, cat_r, cat_n, kC_r, kC_x, Option.bind_some, Option.toList_some, Option.toList_none, List.cons_append, List.nil_append, gB0, gB1, gB2, gB3, gB4, rvB, nI_iI, i0, i1, l0_, wr_s, aup_s, and_true, true_and, and_self, eq_self, if_true, if_false, Nat.zero_le, Nat.reduceAdd, Nat.reduceLeDiff, gN_I, gN_L, gN_P, bI_0, bI_ok, z0, z1, Bool.true_eq, Bool.false_eq_true, not_true_eq_false, not_false_eq_true]
theorem s_bestStep {t v u : Int} {f : Nat → Int32} (hO : dkOk W) (hr : rgOk t v u) (hq : dkW h x W g.1 = some (aI .float 8 f)) (hf : ∀ j, j < 8 → f j = st_f j) : aE (d + 12) 81 [.ref x, .int (iI t), .int (iI v), .int (iI u)] (dkW h x W, n, w, g) =
    some (.inl (some (.int (iI (fsR (ofN t v u W.1.1.2 W.1.1.1) 8).1))), (dkW h x W, n, w, g)) := by
  have hr2 : rgOk t v u := hr
  unfold rgOk at hr2
  have q1 := eq_true hr2
  simp (disch := omega) only [e81, r81_0, r81_1, r81_2, r81_3, r81_6, r81_9, r81_19, r81_20, r81_21, r81_22, r81_23, r81_26, s_isRange, q1, dk_0, s_fitting hO hr hq hf, kl_n, kl_i, kl_r, kl_z, kl_l, kl_d, catS_0, catS_c, cat_i, cat_l, cat_d, cat_r, cat_n, kC_r, kC_x, Option.bind_some, Option.toList_some, Option.toList_none, List.cons_append, List.nil_append, gB0, gB1, gB2, gB3, gB4, rvB, nI_iI, i0, i1, l0_, wr_s, aup_s, and_true, true_and, and_self, eq_self, if_true, if_false, Nat.zero_le, Nat.reduceAdd, Nat.reduceLeDiff, gN_I, gN_L, gN_P, bI_0, bI_ok, z0, z1, Bool.true_eq, Bool.false_eq_true, not_true_eq_false, not_false_eq_true]
theorem s_bestStep_1 {t v u : Int} (b1 : -2147483648 ≤ t ∧ t < 2147483648) (b2 : -2147483648 ≤ v ∧ v < 2147483648) (b3 : -2147483648 ≤ u ∧ u < 2147483648) (hc : ¬ rgOk t v u) :
    aE (d + 12) 81 [.ref x, .int (iI t), .int (iI v), .int (iI u)] (dkW h x W, n, w, g) = some (.inr "java/lang/IllegalArgumentException", (dkW h x W, n + 1, w + 6, g)) := by
  have c8 : 8 ≤ d + 11 := by omega
  simp (disch := omega) only [e81, r81_0, r81_1, r81_2, r81_3, r81_6, r81_9, s_isRange, c8, ite_not, kl_n, kl_i, kl_r, kl_z, kl_l, kl_d, catS_0, catS_c, cat_i, cat_l, cat_d, cat_r, cat_n, kC_r, kC_x, Option.bind_some, Option.toList_some, Option.toList_none, List.cons_append, List.nil_append, gB0, gB1, gB2, gB3, gB4, rvB, nI_iI, i0, i1, l0_, wr_s, aup_s, and_true, true_and, and_self, eq_self, if_true, if_false, Nat.zero_le, Nat.reduceAdd, Nat.reduceLeDiff, gN_I, gN_L, gN_P, bI_0, bI_ok, z0, z1, Bool.true_eq, Bool.false_eq_true, not_true_eq_false, not_false_eq_true]
  rw [if_neg hc]
end
/-! sums -/
def adL (s : Int64) (v : Int) : Int64 := s * lI 31 + lI v
def adF (c : Nat) : Nat → Int64 → Int64
  | 0, s => s
  | k + 1, s => adL (adF c k s) (cFact c k)
def adN (F : Nat → Nat) : Nat → Int64 → Int64
  | 0, s => s
  | k + 1, s => adF (F k) 5 (adN F k s)
theorem cFact_lt {c : Nat} (hc : cOk c) (w : Nat) : cFact c w < 16384 := by
  have a1 := cT_lt hc
  have a2 := cS_lt c
  have a3 := cL_lt c
  have a4 := cP_lt c
  have a5 := cF_lt c
  unfold cFact
  split <;> omega
section
variable {d n w : Nat} {g : Nat × Nat} {h : aHf} {x : Nat} {W : Dk}
theorem s_add {H : aH} {s : Int64} {v : Int} (h1 : -2147483648 ≤ v) (h2 : v < 2147483648) : aE (d + 1) 82 [.long s, .int (iI v)] H = some (.inl (some (.long (adL s v))), H) := by
  obtain ⟨h, r⟩ := H
  simp (disch := omega) only [e82, r82_0, r82_1, r82_4, r82_5, r82_6, r82_7, r82_8, i_l, kl_n, kl_i, kl_r, kl_z, kl_l, kl_d, catS_0, catS_c, cat_i, cat_l, cat_d, cat_r, cat_n, kC_r, kC_x, Option.bind_some, Option.toList_some, Option.toList_none, List.cons_append, List.nil_append, gB0, gB1, gB2, gB3, gB4, rvB, nI_iI, i0, i1, l0_, wr_s, aup_s, and_true, true_and, and_self, eq_self, if_true, if_false, Nat.zero_le, Nat.reduceAdd, Nat.reduceLeDiff, gN_I, gN_L, gN_P, bI_0, bI_ok, z0, z1, Bool.true_eq, Bool.false_eq_true, not_true_eq_false, not_false_eq_true]
  rfl
theorem an_in {i : Nat} {X : Option Value} {s : Int64} (hO : dkOk W) (hi : i < W.1.1.1) (V : aR) (hV : ∀ l6 : Option Value, L (d + 3) 83 70 [some (.ref x), X, none, some (.long (adF (W.1.1.2 i) 5 s)), none, some (.int (iI i)), l6] [] (dkW h x W, n, w, g) = V) :
    ∀ m j : Nat, j + m = 5 → L (d + 3) 83 36 [some (.ref x), X, none, some (.long (adF (W.1.1.2 i) j s)), none, some (.int (iI i)), some (.int (iI j))] [] (dkW h x W, n, w, g) = V := by
  have hn := hO.1.1
  have hc := hO.1.2.1 i
  intro m
  induction m with
  | zero =>
    intro j hj
    obtain rfl : j = 5 := by omega
    have c1 : (5 : Int) ≤ ((5 : Nat) : Int) := by omega
    rw [r83_36]
    simp (disch := omega) only [r83_38, r83_39, r83_42, r83_43, r83_44, r83_47, r83_50, r83_52, r83_55, r83_57, r83_60, r83_63, r83_64, r83_67, iI_le, c1, kl_n, kl_i, kl_r, kl_z, kl_l, kl_d, catS_0, catS_c, cat_i, cat_l, cat_d, cat_r, cat_n, kC_r, kC_x, Option.bind_some, Option.toList_some, Option.toList_none, List.cons_append, List.nil_append, gB0, gB1, gB2, gB3, gB4, rvB, nI_iI, i0, i1, l0_, wr_s, aup_s, and_true, true_and, and_self, eq_self, if_true, if_false, Nat.zero_le, Nat.reduceAdd, Nat.reduceLeDiff, gN_I, gN_L, gN_P, bI_0, bI_ok, z0, z1, Bool.true_eq, Bool.false_eq_true, not_true_eq_false, not_false_eq_true]
    exact hV _
  | succ m ih =>
    intro j hj
    have c1 : ¬ (5 : Int) ≤ (j : Int) := by omega
    have e1 : (j : Int) + 1 = ((j + 1 : Nat) : Int) := by omega
    have hb := cFact_lt hc j
    have h9 := ih (j + 1) (by omega)
    have e2 : adF (W.1.1.2 i) (j + 1) s = adL (adF (W.1.1.2 i) j s) (cFact (W.1.1.2 i) j) := rfl
    rw [e2] at h9
    rw [r83_36]
    simp (disch := omega) only [r83_38, r83_39, r83_42, r83_43, r83_44, r83_47, r83_50, r83_52, r83_55, r83_57, r83_60, r83_63, r83_64, r83_67, iI_le, c1, dk_0, dk_1, dk_2, k_codeAt, s_fact hc, s_add, iI_add, e1, h9, kl_n, kl_i, kl_r, kl_z, kl_l, kl_d, catS_0, catS_c, cat_i, cat_l, cat_d, cat_r, cat_n, kC_r, kC_x, Option.bind_some, Option.toList_some, Option.toList_none, List.cons_append, List.nil_append, gB0, gB1, gB2, gB3, gB4, rvB, nI_iI, i0, i1, l0_, wr_s, aup_s, and_true, true_and, and_self, eq_self, if_true, if_false, Nat.zero_le, Nat.reduceAdd, Nat.reduceLeDiff, gN_I, gN_L, gN_P, bI_0, bI_ok, z0, z1, Bool.true_eq, Bool.false_eq_true, not_true_eq_false, not_false_eq_true]
theorem an_out {X : Option Value} {s : Int64} (hO : dkOk W) : ∀ m i : Nat, i + m = W.1.1.1 → ∀ l6 : Option Value, L (d + 3) 83 18 [some (.ref x), X, none, some (.long (adN W.1.1.2 i s)), none, some (.int (iI i)), l6] [] (dkW h x W, n, w, g) =
    some (.inl (some (.long (adN W.1.1.2 W.1.1.1 s))), (dkW h x W, n, w, g)) := by
  have hn := hO.1.1
  intro m
  induction m with
  | zero =>
    intro i hi l6
    obtain rfl : i = W.1.1.1 := by omega
    have c1 : (W.1.1.1 : Int) ≤ W.1.1.1 := by omega
    rw [r83_18]
    simp (disch := omega) only [r83_0, r83_1, r83_2, r83_5, r83_8, r83_11, r83_14, r83_15, r83_16, r83_20, r83_21, r83_24, r83_27, r83_30, r83_33, r83_34, r83_38, r83_39, r83_42, r83_43, r83_44, r83_47, r83_50, r83_52, r83_55, r83_57, r83_60, r83_63, r83_64, r83_67, r83_70, r83_73, r83_76, r83_77, dk_0, dk_1, dk_2, k_size, iI_le, c1, kl_n, kl_i, kl_r, kl_z, kl_l, kl_d, catS_0, catS_c, cat_i, cat_l, cat_d, cat_r, cat_n, kC_r, kC_x, Option.bind_some, Option.toList_some, Option.toList_none, List.cons_append, List.nil_append, gB0, gB1, gB2, gB3, gB4, rvB, nI_iI, i0, i1, l0_, wr_s, aup_s, and_true, true_and, and_self, eq_self, if_true, if_false, Nat.zero_le, Nat.reduceAdd, Nat.reduceLeDiff, gN_I, gN_L, gN_P, bI_0, bI_ok, z0, z1, Bool.true_eq, Bool.false_eq_true, not_true_eq_false, not_false_eq_true]
  | succ m ih =>
    intro i hi l6
    have c1 : ¬ (W.1.1.1 : Int) ≤ i := by omega
    have e1 : (i : Int) + 1 = ((i + 1 : Nat) : Int) := by omega
    have h9 := fun l6 => ih (i + 1) (by omega) l6
    have hin := an_in (d := d) (n := n) (w := w) (g := g) (h := h) (x := x) (X := X) (s := adN W.1.1.2 i s) hO (show i < W.1.1.1 by omega) _ (fun l6 => by
      simp (disch := omega) only [r83_70, r83_73, iI_add, e1, kl_n, kl_i, kl_r, kl_z, kl_l, kl_d, catS_0, catS_c, cat_i, cat_l, cat_d, cat_r, cat_n, kC_r, kC_x, Option.bind_some, Option.toList_some, Option.toList_none, List.cons_append, List.nil_append, gB0, gB1, gB2, gB3, gB4, rvB, nI_iI, i0, i1, l0_, wr_s, aup_s, and_true, true_and, and_self, eq_self, if_true, if_false, Nat.zero_le, Nat.reduceAdd, Nat.reduceLeDiff, gN_I, gN_L, gN_P, bI_0, bI_ok, z0, z1, Bool.true_eq, Bool.false_eq_true, not_true_eq_false, not_false_eq_true]
      exact h9 l6) 5 0 (by omega)
    rw [show ((0 : Nat) : Int) = 0 from rfl, show adF (W.1.1.2 i) 0 (adN W.1.1.2 i s) = adN W.1.1.2 i s from rfl] at hin
    rw [r83_18]
    simp (disch := omega) only [r83_20, r83_21, r83_24, r83_27, r83_30, r83_33, r83_34, dk_0, dk_1, dk_2, k_size, iI_le, c1, hin, kl_n, kl_i, kl_r, kl_z, kl_l, kl_d, catS_0, catS_c, cat_i, cat_l, cat_d, cat_r, cat_n, kC_r, kC_x, Option.bind_some, Option.toList_some, Option.toList_none, List.cons_append, List.nil_append, gB0, gB1, gB2, gB3, gB4, rvB, nI_iI, i0, i1, l0_, wr_s, aup_s, and_true, true_and, and_self, eq_self, if_true, if_false, Nat.zero_le, Nat.reduceAdd, Nat.reduceLeDiff, gN_I, gN_L, gN_P, bI_0, bI_ok, z0, z1, Bool.true_eq, Bool.false_eq_true, not_true_eq_false, not_false_eq_true]
theorem s_addNotes {s : Int64} (hO : dkOk W) : aE (d + 4) 83 [.ref x, .long s] (dkW h x W, n, w, g) = some (.inl (some (.long (adN W.1.1.2 W.1.1.1 (adL s W.1.1.1)))), (dkW h x W, n, w, g)) := by
  have hn := hO.1.1
  have hl := an_out (d := d) (n := n) (w := w) (g := g) (h := h) (x := x) (X := some (.long s)) (s := adL s W.1.1.1) hO W.1.1.1 0 (by omega) none
  rw [show ((0 : Nat) : Int) = 0 from rfl, show adN W.1.1.2 0 (adL s W.1.1.1) = adL s W.1.1.1 from rfl] at hl
  simp (disch := omega) only [e83, r83_0, r83_1, r83_2, r83_5, r83_8, r83_11, r83_14, r83_15, r83_16, dk_0, dk_1, dk_2, k_size, s_add, hl, kl_n, kl_i, kl_r, kl_z, kl_l, kl_d, catS_0, catS_c, cat_i, cat_l, cat_d, cat_r, cat_n, kC_r, kC_x, Option.bind_some, Option.toList_some, Option.toList_none, List.cons_append, List.nil_append, gB0, gB1, gB2, gB3, gB4, rvB, nI_iI, i0, i1, l0_, wr_s, aup_s, and_true, true_and, and_self, eq_self, if_true, if_false, Nat.zero_le, Nat.reduceAdd, Nat.reduceLeDiff, gN_I, gN_L, gN_P, bI_0, bI_ok, z0, z1, Bool.true_eq, Bool.false_eq_true, not_true_eq_false, not_false_eq_true]
end
