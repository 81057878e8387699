/-! ===== made: the parts of a desk as they are made ===== -/
section
variable {h : aHf} {b n m : Nat} {c c' : Nat → aC}
theorem rg_snoc : rgW (rgW h b n c) (b + n) m c' = rgW h b (n + m) (fun k => if k < n then c k else c' (k - n)) := by
  funext q
  unfold rgW
  by_cases e1 : b + n ≤ q ∧ q < b + n + m
  · rw [if_pos e1, if_pos (show b ≤ q ∧ q < b + (n + m) by omega)]
    dsimp only
    rw [if_neg (by omega), show q - (b + n) = q - b - n by omega]
  · rw [if_neg e1]
    by_cases e2 : b ≤ q ∧ q < b + n
    · rw [if_pos e2, if_pos (show b ≤ q ∧ q < b + (n + m) by omega)]
      dsimp only
      rw [if_pos (by omega)]
    · rw [if_neg e2, if_neg (by omega)]
theorem rg_set {k : Nat} {v : aC} (hk : k < n) : aup (rgW h b n c) (b + k) v = rgW h b n (fun j => if j = k then v else c j) := by
  funext q
  unfold aup rgW
  by_cases e1 : q = b + k
  · rw [if_pos e1, if_pos (show b ≤ q ∧ q < b + n by omega)]
    dsimp only
    rw [if_pos (by omega)]
  · rw [if_neg e1]
    by_cases e2 : b ≤ q ∧ q < b + n
    · rw [if_pos e2, if_pos e2]
      dsimp only
      rw [if_neg (by omega)]
    · rw [if_neg e2, if_neg e2]
theorem rg_set0 {v : aC} (hk : 0 < n) : aup (rgW h b n c) b v = rgW h b n (fun j => if j = 0 then v else c j) := rg_set hk
theorem rg_new {v : aC} : aup (rgW h b n c) (b + n) v = rgW h b (n + 1) (fun j => if j < n then c j else v) := by
  rw [up_rg]
  exact rg_snoc
theorem rg_ext (hc : ∀ k, k < n → c k = c' k) : rgW h b n c = rgW h b n c' := by
  funext q
  unfold rgW
  by_cases e : b ≤ q ∧ q < b + n
  · rw [if_pos e, if_pos e, hc _ (by omega)]
  · rw [if_neg e, if_neg e]
theorem rg_aup {v : aC} : rgW (aup h b v) b (m + 1) c = rgW h b (m + 1) c := by
  funext q
  unfold aup rgW
  by_cases e : b ≤ q ∧ q < b + (m + 1)
  · rw [if_pos e, if_pos e]
  · rw [if_neg e, if_neg e]
    dsimp only
    rw [if_neg (by omega)]
theorem rg_0 (hk : 0 < n) : rgW h b n c b = some (c 0) := rg_at (k := 0) hk
end
section
variable {d a w : Nat} {g : Nat × Nat} {h : aHf}
theorem ob_i {a : Nat} {H : aH} : aPrim 1000 [.ref a] H = some (.inl none, H) := rfl
theorem s_newNotes : aE (d + 1) 137 [.ref a] (aup h a (aB 4 [.null, .int 0]), a + 1, w, g) = some (.inl none, (rgW h a 2 (nlC a (0, fun _ => 0)), a + 2, w + 60, g)) := by
  have e1 : (iI 60).toNatClampNeg = 60 := by decide
  have e2 : ¬ (iI 60 < iI 0 ∨ 60000000 < 60) := by decide
  rw [up_rg]
  simp (disch := omega) only [e137, r137_0, r137_1, r137_4, r137_5, r137_7, r137_9, r137_12, ob_i, e1, e2, rg_new, rg_0, if_pos, sB0r, rg_set0, kl_n, kl_i, kl_r, kl_z, kl_l, kl_d, catS_0, catS_c, cat_i, cat_l, cat_d, cat_r, cat_n, kC_r, kC_x, Option.bind_some, Option.toList_some, Option.toList_none, List.cons_append, List.nil_append, gB0, gB1, gB2, gB3, gB4, rvB, nI_iI, i0, i1, l0_, wr_s, aup_s, and_true, true_and, and_self, eq_self, if_true, if_false, Nat.zero_le, Nat.reduceAdd, Nat.reduceLeDiff, gN_I, gN_L, gN_P, bI_0, bI_ok, z0, z1, Bool.true_eq, Bool.false_eq_true, not_true_eq_false, not_false_eq_true]
  refine congrArg some (congrArg (Prod.mk _) (congrArg (fun z => (z, a + 2, w + 60, g)) ?_))
  refine rg_ext (fun k hk => ?_)
  obtain rfl | rfl : k = 0 ∨ k = 1 := by omega
  all_goals rfl
theorem s_newTracks : aE (d + 1) 172 [.ref a] (aup h a (aB 8 [.null, .null, .null]), a + 1, w, g) = some (.inl none, (rgW h a 4 (tsC a (fun _ => 0, fun _ => 0, fun _ => 0)), a + 4, w + 18, g)) := by
  have e1 : (iI 6).toNatClampNeg = 6 := by decide
  have e2 : ¬ (iI 6 < iI 0 ∨ 60000000 < 6) := by decide
  have n2 : ∀ {k : Nat} {c : Nat → aC} {v : aC}, aup (rgW h a k c) (a + k) v = rgW h a (k + 1) (fun j => if j < k then c j else v) := rg_new
  rw [up_rg]
  simp (disch := omega) only [e172, r172_0, r172_1, r172_4, r172_5, r172_7, r172_9, r172_12, r172_13, r172_15, r172_17, r172_20, r172_21, r172_23, r172_25, r172_28, ob_i, e1, e2, rg_new, rg_0, if_pos, if_neg, sB0r, sB1r, sB2r, rg_set0, Nat.add_assoc, kl_n, kl_i, kl_r, kl_z, kl_l, kl_d, catS_0, catS_c, cat_i, cat_l, cat_d, cat_r, cat_n, kC_r, kC_x, Option.bind_some, Option.toList_some, Option.toList_none, List.cons_append, List.nil_append, gB0, gB1, gB2, gB3, gB4, rvB, nI_iI, i0, i1, l0_, wr_s, aup_s, and_true, true_and, and_self, eq_self, if_true, if_false, Nat.zero_le, Nat.reduceAdd, Nat.reduceLeDiff, gN_I, gN_L, gN_P, bI_0, bI_ok, z0, z1, Bool.true_eq, Bool.false_eq_true, not_true_eq_false, not_false_eq_true]
  refine congrArg some (congrArg (Prod.mk _) (congrArg (fun z => (z, a + 4, w + 18, g)) ?_))
  refine rg_ext (fun k hk => ?_)
  obtain rfl | rfl | rfl | rfl : k = 0 ∨ k = 1 ∨ k = 2 ∨ k = 3 := by omega
  all_goals rfl
theorem s_newMarks {p q : Nat} : aE (d + 3) 115 [.ref a, .int (iI p), .int (iI q)] (aup h a (aB 2 [.null, .null, .null, .int 0]), a + 1, w, g) =
    some (.inl none, (rgW h a 4 (mkC a (1, upN (fun _ => 0) 0 0, upN (fun _ => 0) 0 p, upN (fun _ => 0) 0 q)), a + 4, w + 33, g)) := by
  have e1 : (iI 11).toNatClampNeg = 11 := by decide
  have e2 : ¬ (iI 11 < iI 0 ∨ 60000000 < 11) := by decide
  have hA : L (d + 2) 115 0 [some (.ref a), some (.int (iI p)), some (.int (iI q))] [] (aup h a (aB 2 [.null, .null, .null, .int 0]), a + 1, w, g) =
      L (d + 2) 115 28 [some (.ref a), some (.int (iI p)), some (.int (iI q))] [] (mkW h a 0 (fun _ => 0) (fun _ => 0) (fun _ => 0), a + 4, w + 33, g) := by
    rw [up_rg]
    simp (disch := omega) only [r115_0, r115_1, r115_4, r115_5, r115_7, r115_9, r115_12, r115_13, r115_15, r115_17, r115_20, r115_21, r115_23, r115_25, ob_i, e1, e2, rg_new, rg_0, if_pos, if_neg, sB0r, sB1r, sB2r, rg_set0, Nat.add_assoc, kl_n, kl_i, kl_r, kl_z, kl_l, kl_d, catS_0, catS_c, cat_i, cat_l, cat_d, cat_r, cat_n, kC_r, kC_x, Option.bind_some, Option.toList_some, Option.toList_none, List.cons_append, List.nil_append, gB0, gB1, gB2, gB3, gB4, rvB, nI_iI, i0, i1, l0_, wr_s, aup_s, and_true, true_and, and_self, eq_self, if_true, if_false, Nat.zero_le, Nat.reduceAdd, Nat.reduceLeDiff, gN_I, gN_L, gN_P, bI_0, bI_ok, z0, z1, Bool.true_eq, Bool.false_eq_true, not_true_eq_false, not_false_eq_true]
    rw [mk_rg]
    refine congrArg (fun z => L (d + 2) 115 28 _ _ (z, a + 4, w + 33, g)) (rg_ext (fun k hk => ?_))
    obtain rfl | rfl | rfl | rfl : k = 0 ∨ k = 1 ∨ k = 2 ∨ k = 3 := by omega
    all_goals rfl
  have pa := s_putAll (d := d) (a := a) (n := 0) (h := h) (r := (a + 4, w + 33, g)) (P := fun _ => 0) (A := fun _ => 0) (B := fun _ => 0) (j := 0) (x := 0) (y := p) (z := q) (by omega) (by omega)
  rw [show ((0 : Nat) : Int) = 0 from rfl, show (0 : Int).toNat = 0 from rfl] at pa
  rw [e115, hA]
  have mu := mk_ua (h := h) (a := a) (n := 0) (P := upN (fun _ => 0) 0 0) (A := upN (fun _ => 0) 0 p) (B := upN (fun _ => 0) 0 q) (m := 1)
  rw [show ((1 : Nat) : Int) = 1 from rfl] at mu
  simp (disch := omega) only [r115_28, r115_29, r115_30, r115_31, r115_32, r115_33, r115_36, r115_37, r115_38, r115_41, mk_a, pa, sB3i, mu, kl_n, kl_i, kl_r, kl_z, kl_l, kl_d, catS_0, catS_c, cat_i, cat_l, cat_d, cat_r, cat_n, kC_r, kC_x, Option.bind_some, Option.toList_some, Option.toList_none, List.cons_append, List.nil_append, gB0, gB1, gB2, gB3, gB4, rvB, nI_iI, i0, i1, l0_, wr_s, aup_s, and_true, true_and, and_self, eq_self, if_true, if_false, Nat.zero_le, Nat.reduceAdd, Nat.reduceLeDiff, gN_I, gN_L, gN_P, bI_0, bI_ok, z0, z1, Bool.true_eq, Bool.false_eq_true, not_true_eq_false, not_false_eq_true]
  rw [mk_rg]
theorem s_newSpeeds : aE (d + 4) 169 [.ref a] (aup h a (aB 7 [.null]), a + 1, w, g) =
    some (.inl none, (aup (rgW h (a + 1) 4 (mkC (a + 1) (1, upN (fun _ => 0) 0 0, upN (fun _ => 0) 0 1200, upN (fun _ => 0) 0 0))) a (aB 7 [.ref (a + 1)]), a + 5, w + 37, g)) := by
  have pm := s_newMarks (d := d) (a := a + 1) (w := w + 4) (g := g) (h := aup h a (aB 7 [.null])) (p := 1200) (q := 0)
  rw [show ((0 : Nat) : Int) = 0 from rfl, show ((1200 : Nat) : Int) = 1200 from rfl] at pm
  have ra : rgW (aup h a (aB 7 [.null])) (a + 1) 4 (mkC (a + 1) (1, upN (fun _ => 0) 0 0, upN (fun _ => 0) 0 1200, upN (fun _ => 0) 0 0)) a = some (aB 7 [.null]) := by
    rw [rg_o (by omega), aup_s]
  simp only [i0] at pm ra ⊢
  simp (disch := omega) only [e169, r169_0, r169_1, r169_4, r169_5, r169_8i, r169_8, r169_9, r169_12, r169_13, r169_16, r169_19, ob_i, pm, ra, sB0r, kl_n, kl_i, kl_r, kl_z, kl_l, kl_d, catS_0, catS_c, cat_i, cat_l, cat_d, cat_r, cat_n, kC_r, kC_x, Option.bind_some, Option.toList_some, Option.toList_none, List.cons_append, List.nil_append, gB0, gB1, gB2, gB3, gB4, rvB, nI_iI, i0, i1, l0_, wr_s, aup_s, and_true, true_and, and_self, eq_self, if_true, if_false, Nat.zero_le, Nat.reduceAdd, Nat.reduceLeDiff, gN_I, gN_L, gN_P, bI_0, bI_ok, z0, z1, Bool.true_eq, Bool.false_eq_true, not_true_eq_false, not_false_eq_true]
  refine congrArg some (congrArg (Prod.mk _) (congrArg (fun z => (z, a + 5, w + 37, g)) ?_))
  funext q
  unfold aup rgW
  by_cases e : q = a
  · rw [if_pos e, if_pos e]
  · rw [if_neg e, if_neg e]
    by_cases e2 : a + 1 ≤ q ∧ q < a + 1 + 4
    · rw [if_pos e2, if_pos e2]
    · rw [if_neg e2, if_neg e2]
      exact if_neg e
theorem s_newMeters : aE (d + 4) 129 [.ref a] (aup h a (aB 3 [.null]), a + 1, w, g) =
    some (.inl none, (aup (rgW h (a + 1) 4 (mkC (a + 1) (1, upN (fun _ => 0) 0 0, upN (fun _ => 0) 0 4, upN (fun _ => 0) 0 4))) a (aB 3 [.ref (a + 1)]), a + 5, w + 37, g)) := by
  have pm := s_newMarks (d := d) (a := a + 1) (w := w + 4) (g := g) (h := aup h a (aB 3 [.null])) (p := 4) (q := 4)
  rw [show ((4 : Nat) : Int) = 4 from rfl] at pm
  have ra : rgW (aup h a (aB 3 [.null])) (a + 1) 4 (mkC (a + 1) (1, upN (fun _ => 0) 0 0, upN (fun _ => 0) 0 4, upN (fun _ => 0) 0 4)) a = some (aB 3 [.null]) := by
    rw [rg_o (by omega), aup_s]
  simp only [i0] at pm ra ⊢
  simp (disch := omega) only [e129, r129_0, r129_1, r129_4, r129_5, r129_8i, r129_8, r129_9, r129_10, r129_11, r129_14, r129_17, ob_i, pm, ra, sB0r, kl_n, kl_i, kl_r, kl_z, kl_l, kl_d, catS_0, catS_c, cat_i, cat_l, cat_d, cat_r, cat_n, kC_r, kC_x, Option.bind_some, Option.toList_some, Option.toList_none, List.cons_append, List.nil_append, gB0, gB1, gB2, gB3, gB4, rvB, nI_iI, i0, i1, l0_, wr_s, aup_s, and_true, true_and, and_self, eq_self, if_true, if_false, Nat.zero_le, Nat.reduceAdd, Nat.reduceLeDiff, gN_I, gN_L, gN_P, bI_0, bI_ok, z0, z1, Bool.true_eq, Bool.false_eq_true, not_true_eq_false, not_false_eq_true]
  refine congrArg some (congrArg (Prod.mk _) (congrArg (fun z => (z, a + 5, w + 37, g)) ?_))
  funext q
  unfold aup rgW
  by_cases e : q = a
  · rw [if_pos e, if_pos e]
  · rw [if_neg e, if_neg e]
    by_cases e2 : a + 1 ≤ q ∧ q < a + 1 + 4
    · rw [if_pos e2, if_pos e2]
    · rw [if_neg e2, if_neg e2]
      exact if_neg e
end
