/-! ===== rows filled, rows copied ===== -/
def flF (f : Nat → Int32) (a b : Nat) (v : Int32) : Nat → Int32 := fun k => if a ≤ k ∧ k < b then v else f k
section
variable {d n w : Nat} {g : Nat × Nat} {h : aHf}
theorem s_rangeCheck {N a b : Nat} {r : Nat × Nat × Nat × Nat} (h1 : a ≤ b) (h2 : b ≤ N) (h3 : N < 2147483648) : aE (d + 1) 266 [.int (iI N), .int (iI a), .int (iI b)] (h, r) = some (.inl none, (h, r)) := by
  have q1 : (a : Int) ≤ b := by omega
  have q2 : (0 : Int) ≤ a := by omega
  have q3 : (b : Int) ≤ N := by omega
  simp (disch := omega) only [e266, r266_0, r266_1, r266_2, r266_8i, r266_8, r266_12i, r266_12, r266_21, r266_30, r266_46, r266_47, r266_53i, r266_53, r266_54, r266_59, r266_60, r266_61, r266_67i, r266_67, r266_68, r266_73, iI_le, q1, q2, q3, kl_n, kl_i, kl_r, kl_z, kl_l, kl_d, catS_0, catS_c, cat_i, cat_l, cat_d, cat_r, cat_n, kC_r, kC_x, Option.bind_some, Option.toList_some, Option.toList_none, List.cons_append, List.nil_append, gB0, gB1, gB2, gB3, gB4, rvB, nI_iI, i0, i1, l0_, wr_s, aup_s, and_true, true_and, and_self, eq_self, if_true, if_false, Nat.zero_le, Nat.reduceAdd, Nat.reduceLeDiff, gN_I, gN_L, gN_P, bI_0, bI_ok, z0, z1, Bool.true_eq, Bool.false_eq_true, not_true_eq_false, not_false_eq_true]
theorem fl_loop {p N a b : Nat} {f : Nat → Int32} {v : Int32} {r : Nat × Nat × Nat × Nat} (hab : a ≤ b ∧ b ≤ N ∧ N < 2147483648) : ∀ m i : Nat, i + m = b → a ≤ i →
    L d 267 10 [some (.ref p), some (.int (iI a)), some (.int (iI b)), some (.int v), some (.int (iI i))] [] (aup h p (aI .int N (flF f a i v)), r) = some (.inl none, (aup h p (aI .int N (flF f a b v)), r)) := by
  intro m
  induction m with
  | zero =>
    intro i hi ha
    obtain rfl : i = b := by omega
    have c1 : (i : Int) ≤ i := by omega
    rw [r267_10]
    simp (disch := omega) only [r267_0, r267_1, r267_2, r267_3, r267_4, r267_7, r267_8, r267_12, r267_13, r267_16, r267_17, r267_19, r267_20, r267_21, r267_24, r267_27, iI_le, c1, kl_n, kl_i, kl_r, kl_z, kl_l, kl_d, catS_0, catS_c, cat_i, cat_l, cat_d, cat_r, cat_n, kC_r, kC_x, Option.bind_some, Option.toList_some, Option.toList_none, List.cons_append, List.nil_append, gB0, gB1, gB2, gB3, gB4, rvB, nI_iI, i0, i1, l0_, wr_s, aup_s, and_true, true_and, and_self, eq_self, if_true, if_false, Nat.zero_le, Nat.reduceAdd, Nat.reduceLeDiff, gN_I, gN_L, gN_P, bI_0, bI_ok, z0, z1, Bool.true_eq, Bool.false_eq_true, not_true_eq_false, not_false_eq_true]
  | succ m ih =>
    intro i hi ha
    have c1 : ¬ (b : Int) ≤ i := by omega
    have e1 : (i : Int) + 1 = ((i + 1 : Nat) : Int) := by omega
    have h9 := ih (i + 1) (by omega) (by omega)
    have e2 : upd (flF f a i v) i v = flF f a (i + 1) v := by
      funext k
      unfold upd flF
      by_cases e : k = i
      · rw [if_pos e, if_pos (by omega)]
      · rw [if_neg e]
        by_cases e3 : a ≤ k ∧ k < i
        · rw [if_pos e3, if_pos (by omega)]
        · rw [if_neg e3, if_neg (by omega)]
    have si : sI (some (aI .int N (flF f a i v))) (iI (i : Int)) v = some (aI .int N (flF f a (i + 1) v)) := by
      rw [sI_I (by omega) (by omega) (by omega), Int.toNat_natCast, e2]
    rw [r267_10]
    simp (disch := omega) only [r267_0, r267_1, r267_2, r267_3, r267_4, r267_7, r267_8, r267_12, r267_13, r267_16, r267_17, r267_19, r267_20, r267_21, r267_24, r267_27, iI_le, c1, aup_s, si, aup_2, iI_add, e1, h9, kl_n, kl_i, kl_r, kl_z, kl_l, kl_d, catS_0, catS_c, cat_i, cat_l, cat_d, cat_r, cat_n, kC_r, kC_x, Option.bind_some, Option.toList_some, Option.toList_none, List.cons_append, List.nil_append, gB0, gB1, gB2, gB3, gB4, rvB, nI_iI, i0, i1, l0_, wr_s, aup_s, and_true, true_and, and_self, eq_self, if_true, if_false, Nat.zero_le, Nat.reduceAdd, Nat.reduceLeDiff, gN_I, gN_L, gN_P, bI_0, bI_ok, z0, z1, Bool.true_eq, Bool.false_eq_true, not_true_eq_false, not_false_eq_true]
theorem s_fill {p N a b : Nat} {f : Nat → Int32} {v : Int32} {r : Nat × Nat × Nat × Nat} (hp : h p = some (aI .int N f)) (hab : a ≤ b ∧ b ≤ N ∧ N < 2147483648) : aE (d + 2) 267 [.ref p, .int (iI a), .int (iI b), .int v] (h, r) = some (.inl none, (aup h p (aI .int N (flF f a b v)), r)) := by
  have hl := fl_loop (d := d + 1) (h := h) (p := p) (f := f) (v := v) (r := r) hab (b - a) a (by omega) (Nat.le_refl a)
  have e0 : aup h p (aI .int N (flF f a a v)) = h := by
    funext q
    unfold aup
    by_cases e : q = p
    · rw [if_pos e, e, hp]
      refine congrArg some (congrArg (aI .int N) ?_)
      funext k
      unfold flF
      rw [if_neg (by omega)]
    · rw [if_neg e]
  rw [e0] at hl
  simp (disch := omega) only [e267, r267_0, r267_1, r267_2, r267_3, r267_4, r267_7, r267_8, r267_12, r267_13, r267_16, r267_17, r267_19, r267_20, r267_21, r267_24, r267_27, hp, gN_I, s_rangeCheck hab.1 hab.2.1 hab.2.2, hl, kl_n, kl_i, kl_r, kl_z, kl_l, kl_d, catS_0, catS_c, cat_i, cat_l, cat_d, cat_r, cat_n, kC_r, kC_x, Option.bind_some, Option.toList_some, Option.toList_none, List.cons_append, List.nil_append, gB0, gB1, gB2, gB3, gB4, rvB, nI_iI, i0, i1, l0_, wr_s, aup_s, and_true, true_and, and_self, eq_self, if_true, if_false, Nat.zero_le, Nat.reduceAdd, Nat.reduceLeDiff, gN_I, gN_L, gN_P, bI_0, bI_ok, z0, z1, Bool.true_eq, Bool.false_eq_true, not_true_eq_false, not_false_eq_true]
theorem s_checkLength {a b : Nat} {r : Nat × Nat × Nat × Nat} (h1 : a ≤ b) (h3 : b < 2147483648) : aE (d + 1) 268 [.int (iI a), .int (iI b)] (h, r) = some (.inl none, (h, r)) := by
  have q1 : (a : Int) ≤ b := by omega
  simp (disch := omega) only [e268, r268_0, r268_1, r268_2, r268_8i, r268_8, r268_12i, r268_12, r268_16, r268_26, r268_37, iI_le, q1, kl_n, kl_i, kl_r, kl_z, kl_l, kl_d, catS_0, catS_c, cat_i, cat_l, cat_d, cat_r, cat_n, kC_r, kC_x, Option.bind_some, Option.toList_some, Option.toList_none, List.cons_append, List.nil_append, gB0, gB1, gB2, gB3, gB4, rvB, nI_iI, i0, i1, l0_, wr_s, aup_s, and_true, true_and, and_self, eq_self, if_true, if_false, Nat.zero_le, Nat.reduceAdd, Nat.reduceLeDiff, gN_I, gN_L, gN_P, bI_0, bI_ok, z0, z1, Bool.true_eq, Bool.false_eq_true, not_true_eq_false, not_false_eq_true]
theorem s_cpRI {p N a b : Nat} {f : Nat → Int32} (hp : h p = some (aI .int N f)) (pn : p < n) (hab : a ≤ b ∧ b ≤ N ∧ N ≤ 60000) : aE (d + 2) 269 [.ref p, .int (iI a), .int (iI b)] (h, n, w, g) =
    some (.inl (some (.ref n)), (aup h n (aI .int (b - a) (va_cpy f (fun _ => iI 0) a 0 (b - a))), n + 1, w + (b - a), g)) := by
  have e1 : (b : Int) - a = ((b - a : Nat) : Int) := by omega
  have c1 : (iI ((b - a : Nat) : Int)).toNatClampNeg = b - a := by
    rw [iI_cl (by omega) (by omega), Int.toNat_natCast]
  have c2 : ¬ (iI ((b - a : Nat) : Int) < iI 0 ∨ 60000000 < b - a) := by
    rw [iI_lt (by omega) (by omega) (by omega) (by omega)]
    omega
  have m1 := s_min (d := d) (h := aup h n (aI .int (b - a) (fun _ => iI 0))) (r := (n + 1, w + (b - a), g)) (a := (N : Int) - a) (b := ((b - a : Nat) : Int)) (by omega) (by omega) (by omega) (by omega)
  rw [show min ((N : Int) - a) ((b - a : Nat) : Int) = ((b - a : Nat) : Int) by omega] at m1
  have cc := s_acopy (h := aup h n (aI .int (b - a) (fun _ => iI 0))) (n := n + 1) (r := (w + (b - a), g)) (s := p) (t := n) (sp := a) (dp := 0) (m := b - a) (N := N) (K := b - a) (f := f) (f' := fun _ => iI 0) (by rw [aup_o (by omega)]; exact hp) aup_s (by omega) (by omega) (by omega) (by omega)
  rw [show ((0 : Nat) : Int) = 0 from rfl, aup_2] at cc
  have hp2 : aup h n (aI .int (b - a) (fun _ => iI 0)) p = some (aI .int N f) := by rw [aup_o (by omega)]; exact hp
  simp (disch := omega) only [e269, r269_0, r269_1, r269_2, r269_5, r269_6, r269_7, r269_8, r269_9, r269_10, r269_12, r269_14, r269_15, r269_16, r269_18, r269_19, r269_20, r269_21, r269_22, r269_23, r269_24, r269_27, r269_30, r269_32, s_checkLength hab.1 (show b < 2147483648 by omega), iI_sub, e1, c1, c2, hp2, gN_I, m1, cc, kl_n, kl_i, kl_r, kl_z, kl_l, kl_d, catS_0, catS_c, cat_i, cat_l, cat_d, cat_r, cat_n, kC_r, kC_x, Option.bind_some, Option.toList_some, Option.toList_none, List.cons_append, List.nil_append, gB0, gB1, gB2, gB3, gB4, rvB, nI_iI, i0, i1, l0_, wr_s, aup_s, and_true, true_and, and_self, eq_self, if_true, if_false, Nat.zero_le, Nat.reduceAdd, Nat.reduceLeDiff, gN_I, gN_L, gN_P, bI_0, bI_ok, z0, z1, Bool.true_eq, Bool.false_eq_true, not_true_eq_false, not_false_eq_true]
theorem s_cpR {p N a b : Nat} {f : Nat → Int32} (hp : h p = some (aI .int N f)) (pn : p < n) (hab : a ≤ b ∧ b ≤ N ∧ N ≤ 60000) (hne : a ≠ 0 ∨ b ≠ N) : aE (d + 3) 270 [.ref p, .int (iI a), .int (iI b)] (h, n, w, g) =
    some (.inl (some (.ref n)), (aup h n (aI .int (b - a) (va_cpy f (fun _ => iI 0) a 0 (b - a))), n + 1, w + (b - a), g)) := by
  have ci := s_cpRI (d := d) (w := w) (g := g) hp pn hab
  by_cases q : a = 0
  · subst q
    have q2 : ¬ (b : Int) = N := by omega
    rw [show ((0 : Nat) : Int) = 0 from rfl] at ci ⊢
    simp (disch := omega) only [e270, r270_0, r270_1, r270_4, r270_5, r270_6, r270_7, r270_10, r270_11, r270_12, r270_13, r270_16, r270_17, r270_24, iI_eq, hp, gN_I, q2, ci, kl_n, kl_i, kl_r, kl_z, kl_l, kl_d, catS_0, catS_c, cat_i, cat_l, cat_d, cat_r, cat_n, kC_r, kC_x, Option.bind_some, Option.toList_some, Option.toList_none, List.cons_append, List.nil_append, gB0, gB1, gB2, gB3, gB4, rvB, nI_iI, i0, i1, l0_, wr_s, aup_s, and_true, true_and, and_self, eq_self, if_true, if_false, Nat.zero_le, Nat.reduceAdd, Nat.reduceLeDiff, gN_I, gN_L, gN_P, bI_0, bI_ok, z0, z1, Bool.true_eq, Bool.false_eq_true, not_true_eq_false, not_false_eq_true]
  · have q1 : ¬ (a : Int) = 0 := by omega
    simp (disch := omega) only [e270, r270_0, r270_1, r270_4, r270_5, r270_6, r270_7, r270_10, r270_11, r270_12, r270_13, r270_16, r270_17, r270_24, iI_eq, q1, ci, kl_n, kl_i, kl_r, kl_z, kl_l, kl_d, catS_0, catS_c, cat_i, cat_l, cat_d, cat_r, cat_n, kC_r, kC_x, Option.bind_some, Option.toList_some, Option.toList_none, List.cons_append, List.nil_append, gB0, gB1, gB2, gB3, gB4, rvB, nI_iI, i0, i1, l0_, wr_s, aup_s, and_true, true_and, and_self, eq_self, if_true, if_false, Nat.zero_le, Nat.reduceAdd, Nat.reduceLeDiff, gN_I, gN_L, gN_P, bI_0, bI_ok, z0, z1, Bool.true_eq, Bool.false_eq_true, not_true_eq_false, not_false_eq_true]
end
