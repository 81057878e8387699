/-! ===== the mean of the forces ===== -/
def mfS (C : Nat → Nat) : Nat → Nat
  | 0 => 0
  | k + 1 => mfS C k + if C k / 131072 % 2 = 1 then C k % 128 else 0
def mfC (C : Nat → Nat) : Nat → Nat
  | 0 => 0
  | k + 1 => mfC C k + if C k / 131072 % 2 = 1 then 1 else 0
theorem mfS_b (C : Nat → Nat) : ∀ k, mfS C k ≤ 128 * k
  | 0 => Nat.le_refl _
  | k + 1 => by
    have := mfS_b C k
    unfold mfS
    split <;> omega
theorem mfC_b (C : Nat → Nat) : ∀ k, mfC C k ≤ k
  | 0 => Nat.le_refl _
  | k + 1 => by
    have := mfC_b C k
    unfold mfC
    split <;> omega
section
variable {d n w : Nat} {g : Nat × Nat} {h : aHf} {r : Nat × Nat × Nat × Nat} {x : Nat} {W : Dk}
theorem mf_loop (hN : W.2.2.2.1.1 ≤ 960) (hC : ∀ i, vOk (W.2.2.2.1.2.1 i)) (h4 : mfC W.2.2.2.1.2.1 W.2.2.2.1.1 ≤ 480) : ∀ m i : Nat, i + m = W.2.2.2.1.1 → L (d + 2) 165 6 [some (.ref (x + 401)), some (.int (iI (mfS W.2.2.2.1.2.1 i))), some (.int (iI (mfC W.2.2.2.1.2.1 i))), some (.int (iI i))] [] (dkW h x W, r) =
    some (.inl (some (.double (mnD (mfS W.2.2.2.1.2.1 W.2.2.2.1.1) (mfC W.2.2.2.1.2.1 W.2.2.2.1.1)))), (dkW h x W, r)) := by
  intro m
  induction m with
  | zero =>
    intro i hi
    obtain rfl : i = W.2.2.2.1.1 := by omega
    have c1 : (W.2.2.2.1.1 : Int) ≤ W.2.2.2.1.1 := by omega
    have b1 := mfS_b W.2.2.2.1.2.1 W.2.2.2.1.1
    rw [r165_6]
    by_cases c : mfC W.2.2.2.1.2.1 W.2.2.2.1.1 = 0
    · have c2 : (mfC W.2.2.2.1.2.1 W.2.2.2.1.1 : Int) ≤ 0 := by omega
      have e : mnD (mfS W.2.2.2.1.2.1 W.2.2.2.1.1) (mfC W.2.2.2.1.2.1 W.2.2.2.1.1) = FP.dconst0 := if_pos c
      rw [e]
      simp (disch := omega) only [r165_7, r165_8, r165_11, r165_45, r165_46, r165_49, r165_50, r165_51, r165_52, r165_53, r165_54, r165_57, r165_58, dk_r, iI_le, c1, c2, kl_n, kl_i, kl_r, kl_z, kl_l, kl_d, catS_0, catS_c, cat_i, cat_l, cat_d, cat_r, cat_n, kC_r, kC_x, Option.bind_some, Option.toList_some, Option.toList_none, List.cons_append, List.nil_append, gB0, gB1, gB2, gB3, gB4, rvB, nI_iI, i0, i1, l0_, wr_s, aup_s, and_true, true_and, and_self, eq_self, if_true, if_false, Nat.zero_le, Nat.reduceAdd, Nat.reduceLeDiff, gN_I, gN_L, gN_P, bI_0, bI_ok, z0, z1, Bool.true_eq, Bool.false_eq_true, not_true_eq_false, not_false_eq_true]
    · have c2 : ¬ (mfC W.2.2.2.1.2.1 W.2.2.2.1.1 : Int) ≤ 0 := by omega
      have e : mnD (mfS W.2.2.2.1.2.1 W.2.2.2.1.1) (mfC W.2.2.2.1.2.1 W.2.2.2.1.1) = FP.ddiv (FP.i2d (iI (mfS W.2.2.2.1.2.1 W.2.2.2.1.1))) (FP.i2d (iI (mfC W.2.2.2.1.2.1 W.2.2.2.1.1))) := if_neg c
      have mk := mn_mask (a := mfS W.2.2.2.1.2.1 W.2.2.2.1.1) (b := mfC W.2.2.2.1.2.1 W.2.2.2.1.1) (by omega)
      have mkT := eq_true mk
      rw [e]
      simp (disch := omega) only [r165_7, r165_8, r165_11, r165_45, r165_46, r165_49, r165_50, r165_51, r165_52, r165_53, r165_54, r165_57, r165_58, dk_r, iI_le, c1, c2, kl_n, kl_i, kl_r, kl_z, kl_l, kl_d, catS_0, catS_c, cat_i, cat_l, cat_d, cat_r, cat_n, kC_r, kC_x, Option.bind_some, Option.toList_some, Option.toList_none, List.cons_append, List.nil_append, gB0, gB1, gB2, gB3, gB4, rvB, nI_iI, i0, i1, l0_, wr_s, aup_s, and_true, true_and, and_self, eq_self, if_true, if_false, Nat.zero_le, Nat.reduceAdd, Nat.reduceLeDiff, gN_I, gN_L, gN_P, bI_0, bI_ok, z0, z1, Bool.true_eq, Bool.false_eq_true, not_true_eq_false, not_false_eq_true]
      rw [if_pos mk]
  | succ m ih =>
    intro i hi
    have c1 : ¬ (W.2.2.2.1.1 : Int) ≤ i := by omega
    have e1 : (i : Int) + 1 = ((i + 1 : Nat) : Int) := by omega
    have hc := hC i
    have b1 := mfS_b W.2.2.2.1.2.1 i
    have b2 := mfC_b W.2.2.2.1.2.1 i
    have h9 := ih (i + 1) (by omega)
    have eo := s_evOn (d := d + 1) (h := dkW h x W) (r := r) hc
    have ef := s_evForce (d := d + 1) (h := dkW h x W) (r := r) hc
    rw [r165_6]
    by_cases q2 : W.2.2.2.1.2.1 i / 131072 % 2 = 1
    · have e2 : mfS W.2.2.2.1.2.1 (i + 1) = mfS W.2.2.2.1.2.1 i + W.2.2.2.1.2.1 i % 128 := congrArg (_ + ·) (if_pos q2)
      have e3 : mfC W.2.2.2.1.2.1 (i + 1) = mfC W.2.2.2.1.2.1 i + 1 := congrArg (_ + ·) (if_pos q2)
      have e4 : (mfS W.2.2.2.1.2.1 i : Int) + ((W.2.2.2.1.2.1 i % 128 : Nat) : Int) = (mfS W.2.2.2.1.2.1 (i + 1) : Int) := by rw [e2]; omega
      have e5 : (mfC W.2.2.2.1.2.1 i : Int) + 1 = (mfC W.2.2.2.1.2.1 (i + 1) : Int) := by rw [e3]; omega
      simp (disch := omega) only [r165_7, r165_8, r165_11, r165_14, r165_15, r165_16, r165_19, r165_22, r165_25, r165_26, r165_27, r165_28, r165_31, r165_34, r165_35, r165_36, r165_39, r165_42, dk_r, iI_le, c1, s_evAt, eo, ef, q2, iI_add, e4, e5, e1, h9, kl_n, kl_i, kl_r, kl_z, kl_l, kl_d, catS_0, catS_c, cat_i, cat_l, cat_d, cat_r, cat_n, kC_r, kC_x, Option.bind_some, Option.toList_some, Option.toList_none, List.cons_append, List.nil_append, gB0, gB1, gB2, gB3, gB4, rvB, nI_iI, i0, i1, l0_, wr_s, aup_s, and_true, true_and, and_self, eq_self, if_true, if_false, Nat.zero_le, Nat.reduceAdd, Nat.reduceLeDiff, gN_I, gN_L, gN_P, bI_0, bI_ok, z0, z1, Bool.true_eq, Bool.false_eq_true, not_true_eq_false, not_false_eq_true]
    · have e2 : mfS W.2.2.2.1.2.1 (i + 1) = mfS W.2.2.2.1.2.1 i := congrArg (_ + ·) (if_neg q2)
      have e3 : mfC W.2.2.2.1.2.1 (i + 1) = mfC W.2.2.2.1.2.1 i := congrArg (_ + ·) (if_neg q2)
      rw [e2, e3] at h9
      simp (disch := omega) only [r165_7, r165_8, r165_11, r165_14, r165_15, r165_16, r165_19, r165_22, r165_25, r165_26, r165_27, r165_28, r165_31, r165_34, r165_35, r165_36, r165_39, r165_42, dk_r, iI_le, c1, s_evAt, eo, q2, iI_add, e1, h9, kl_n, kl_i, kl_r, kl_z, kl_l, kl_d, catS_0, catS_c, cat_i, cat_l, cat_d, cat_r, cat_n, kC_r, kC_x, Option.bind_some, Option.toList_some, Option.toList_none, List.cons_append, List.nil_append, gB0, gB1, gB2, gB3, gB4, rvB, nI_iI, i0, i1, l0_, wr_s, aup_s, and_true, true_and, and_self, eq_self, if_true, if_false, Nat.zero_le, Nat.reduceAdd, Nat.reduceLeDiff, gN_I, gN_L, gN_P, bI_0, bI_ok, z0, z1, Bool.true_eq, Bool.false_eq_true, not_true_eq_false, not_false_eq_true]
theorem s_meanForce (hO : dkOk W) (hR : rn2 W) (h4 : mfC (plE W).2 (plE W).1 ≤ 480) : aE (d + 12) 76 [.ref x] (dkW h x W, n, w, g) = some (.inl (some (.double (mnD (mfS (plE W).2 (plE W).1) (mfC (plE W).2 (plE W).1)))), (dkW h x (plW W), n, w, g)) := by
  have hp := s_play (d := d + 5) (h := h) (r := (n, w, g)) (x := x) hO.1 hR.1
  have hk := plE_ok hO.1 hR.1
  have lp := mf_loop (d := d + 8) (h := h) (r := (n, w, g)) (x := x) (W := plW W) hk.1 hk.2 h4 (plE W).1 0 (Nat.zero_add _)
  rw [show ((0 : Nat) : Int) = 0 from rfl, show mfS (plW W).2.2.2.1.2.1 0 = 0 from rfl, show mfC (plW W).2.2.2.1.2.1 0 = 0 from rfl, show ((0 : Nat) : Int) = 0 from rfl] at lp
  change _ = some ((.inl (some (.double (mnD (mfS (plE W).2 (plE W).1) (mfC (plE W).2 (plE W).1)))) : aO), _) at lp
  simp (disch := omega) only [e76, r76_0, r76_1, r76_4, r76_5, r76_8, r76_11, r76_12, r76_15, r76_18, dk_0, dk_r, hp, e165, r165_0, r165_1, r165_2, r165_3, r165_4, r165_5, lp, kl_n, kl_i, kl_r, kl_z, kl_l, kl_d, catS_0, catS_c, cat_i, cat_l, cat_d, cat_r, cat_n, kC_r, kC_x, Option.bind_some, Option.toList_some, Option.toList_none, List.cons_append, List.nil_append, gB0, gB1, gB2, gB3, gB4, rvB, nI_iI, i0, i1, l0_, wr_s, aup_s, and_true, true_and, and_self, eq_self, if_true, if_false, Nat.zero_le, Nat.reduceAdd, Nat.reduceLeDiff, gN_I, gN_L, gN_P, bI_0, bI_ok, z0, z1, Bool.true_eq, Bool.false_eq_true, not_true_eq_false, not_false_eq_true]
end
