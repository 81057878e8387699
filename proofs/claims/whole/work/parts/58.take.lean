/-! ===== the reference's notes: taken, sorted ===== -/
/-- what lies behind m notes, when one is taken away -/
def tkX (m : Nat) (X : Nat → Int32) : Nat → Int32 := fun k => if k < 1 + 5 * m then iI 0 else X k
theorem del_arr {m p : Nat} {F : Nat → Nat} {X : Nat → Int32} (hp : p < m) : flF (upd (va_cpy (nB m F X) (nB m F X) (6 + 5 * p) (1 + 5 * p) (5 * (m - p - 1))) 0 (iI (m - 1 : Nat))) (1 + 5 * (m - 1)) (6 + 5 * (m - 1)) (iI 0) = nB (m - 1) (dlN F p (m - 1)) (tkX m X) := by
  funext k
  unfold flF
  by_cases e1 : 1 + 5 * (m - 1) ≤ k ∧ k < 6 + 5 * (m - 1)
  · rw [if_pos e1]
    unfold nB tkX
    rw [if_neg (by omega), if_neg (by omega), if_pos (by omega)]
  · rw [if_neg e1]
    unfold upd va_cpy
    by_cases e0 : k = 0
    · rw [if_pos e0, e0, nB_0]
    · rw [if_neg e0]
      by_cases e2 : 1 + 5 * p ≤ k ∧ k < 1 + 5 * p + 5 * (m - p - 1)
      · rw [if_pos e2, show 6 + 5 * p + (k - (1 + 5 * p)) = k + 5 by omega]
        unfold nB dlN
        rw [if_neg (by omega), if_pos (by omega), if_neg e0, if_pos (by omega), if_pos (by omega), show (k + 5 - 1) / 5 = (k - 1) / 5 + 1 by omega, show (k + 5 - 1) % 5 = (k - 1) % 5 by omega]
      · rw [if_neg e2]
        unfold nB dlN tkX
        rw [if_neg e0, if_neg e0]
        by_cases e4 : (k - 1) / 5 < m - 1
        · rw [if_pos (by omega), if_pos e4, if_neg (by omega)]
        · rw [if_neg (by omega), if_neg e4, if_neg (by omega)]
section
variable {d n w : Nat} {g : Nat × Nat} {h : aHf} {y : Nat} {M : Md}
theorem r_take {p m : Nat} {F : Nat → Nat} {X : Nat → Int32} (hp : p < m) (hm : m ≤ 60) (hA : M.2.1 = nB m F X) :
    aE (d + 3) 202 [.ref y, .int (iI p)] (mdW h y M, n, w, g) = some (.inl none, (mdW h y (M.1, nB (m - 1) (dlN F p (m - 1)) (tkX m X), M.2.2), n, w, g)) := by
  have g0 : gI (some (aI .int 385 (nB m F X))) (iI 0) = some (iI m) := by
    have e := gI_I (N := 385) (f := nB m F X) (j := 0) (by omega) (by omega) (by omega)
    exact e
  have c1 := s_acopy (h := mdW h y M) (n := n) (r := (w, g)) (s := y + 1) (t := y + 1) (sp := 6 + 5 * p) (dp := 1 + 5 * p) (m := 5 * (m - p - 1)) (md_1 (h := h) (y := y) (M := M)) (md_1 (h := h) (y := y) (M := M)) (by omega) (by omega) (by omega) (by omega)
  rw [md_a, hA] at c1
  have f1 : 1 + 5 * (p : Int) = ((1 + 5 * p : Nat) : Int) := by omega
  have f2 : ((1 + 5 * p : Nat) : Int) + 5 = ((6 + 5 * p : Nat) : Int) := by omega
  have f3 : 5 * ((m : Int) - (p : Int) - 1) = ((5 * (m - p - 1) : Nat) : Int) := by omega
  have g1 : gI (some (aI .int 385 (va_cpy (nB m F X) (nB m F X) (6 + 5 * p) (1 + 5 * p) (5 * (m - p - 1))))) (iI 0) = some (iI m) := by
    have e := gI_I (N := 385) (f := va_cpy (nB m F X) (nB m F X) (6 + 5 * p) (1 + 5 * p) (5 * (m - p - 1))) (j := 0) (by omega) (by omega) (by omega)
    rw [e]
    unfold va_cpy
    show some (if 1 + 5 * p ≤ 0 ∧ 0 < 1 + 5 * p + 5 * (m - p - 1) then _ else nB m F X 0) = _
    rw [if_neg (by omega), nB_0]
  have s1 : sI (some (aI .int 385 (va_cpy (nB m F X) (nB m F X) (6 + 5 * p) (1 + 5 * p) (5 * (m - p - 1))))) (iI 0) (iI (m - 1 : Nat)) = some (aI .int 385 (upd (va_cpy (nB m F X) (nB m F X) (6 + 5 * p) (1 + 5 * p) (5 * (m - p - 1))) 0 (iI (m - 1 : Nat)))) := by
    have e := sI_I (N := 385) (f := va_cpy (nB m F X) (nB m F X) (6 + 5 * p) (1 + 5 * p) (5 * (m - p - 1))) (j := 0) (x := iI (m - 1 : Nat)) (by omega) (by omega) (by omega)
    exact e
  have f4 : (m : Int) - 1 = ((m - 1 : Nat) : Int) := by omega
  have g2 : gI (some (aI .int 385 (upd (va_cpy (nB m F X) (nB m F X) (6 + 5 * p) (1 + 5 * p) (5 * (m - p - 1))) 0 (iI (m - 1 : Nat))))) (iI 0) = some (iI (m - 1 : Nat)) := by
    have e := gI_I (N := 385) (f := upd (va_cpy (nB m F X) (nB m F X) (6 + 5 * p) (1 + 5 * p) (5 * (m - p - 1))) 0 (iI (m - 1 : Nat))) (j := 0) (by omega) (by omega) (by omega)
    exact e
  have f5 : 1 + 5 * ((m - 1 : Nat) : Int) = ((1 + 5 * (m - 1) : Nat) : Int) := by omega
  have f6 : ((1 + 5 * (m - 1) : Nat) : Int) + 5 = ((6 + 5 * (m - 1) : Nat) : Int) := by omega
  have fl := s_fill (d := d) (h := mdW h y (M.1, upd (va_cpy (nB m F X) (nB m F X) (6 + 5 * p) (1 + 5 * p) (5 * (m - p - 1))) 0 (iI (m - 1 : Nat)), M.2.2)) (r := (n, w, g)) (p := y + 1) (a := 1 + 5 * (m - 1)) (b := 6 + 5 * (m - 1)) (v := iI 0) md_1 (by omega)
  rw [md_a, del_arr hp] at fl
  simp (disch := omega) only [e202, r202_0, r202_1, r202_4, r202_5, r202_6, r202_7, r202_8, r202_9, r202_10, r202_11, r202_12, r202_15, r202_16, r202_17, r202_18, r202_19, r202_20, r202_21, r202_22, r202_25, r202_26, r202_27, r202_28, r202_29, r202_30, r202_31, r202_32, r202_35, r202_36, r202_39, r202_40, r202_41, r202_42, r202_43, r202_44, r202_45, r202_46, r202_49, r202_50, r202_51, r202_52, r202_55, r202_56, r202_57, r202_58, r202_59, r202_60, r202_61, r202_62, r202_65, r202_66, r202_67, r202_68, r202_69, r202_70, r202_71, r202_72, r202_75, md_0, md_1, hA, g0, iI_mul, iI_add, iI_sub, f1, f2, f3, c1, g1, f4, s1, md_a, g2, f5, f6, fl, kl_n, kl_i, kl_r, kl_z, kl_l, kl_d, catS_0, catS_c, cat_i, cat_l, cat_d, cat_r, cat_n, kC_r, kC_x, Option.bind_some, Option.toList_some, Option.toList_none, List.cons_append, List.nil_append, gB0, gB1, gB2, gB3, gB4, rvB, nI_iI, i0, i1, l0_, wr_s, aup_s, and_true, true_and, and_self, eq_self, if_true, if_false, Nat.zero_le, Nat.reduceAdd, Nat.reduceLeDiff, gN_I, gN_L, gN_P, bI_0, bI_ok, z0, z1, Bool.true_eq, Bool.false_eq_true, not_true_eq_false, not_false_eq_true]
end
