/-! ===== speeds and meters set; when and where; chords, clashes ===== -/
def mkD (V : MKv) (v : Nat) : MKv := (V.1 - 1, dlN V.2.1 (lu V.2.1 v V.1) (V.1 - 1), dlN V.2.2.1 (lu V.2.1 v V.1) (V.1 - 1), dlN V.2.2.2 (lu V.2.1 v V.1) (V.1 - 1))
def mkA (V : MKv) (v y z : Nat) : MKv := if V.2.1 (lu V.2.1 v V.1) = v then (V.1, upN V.2.1 (lu V.2.1 v V.1) v, upN V.2.2.1 (lu V.2.1 v V.1) y, upN V.2.2.2 (lu V.2.1 v V.1) z)
  else (V.1 + 1, insN V.2.1 (lu V.2.1 v V.1 + 1) V.1 v, insN V.2.2.1 (lu V.2.1 v V.1 + 1) V.1 y, insN V.2.2.2 (lu V.2.1 v V.1 + 1) V.1 z)
def spT (W : Dk) (V : MKv) : Dk := ((W.1.1, W.1.2.1, V, W.1.2.2.2), W.2)
def mtT (W : Dk) (V : MKv) : Dk := ((W.1.1, W.1.2.1, W.1.2.2.1, V, W.1.2.2.2.2), W.2)
section
variable {d : Nat} {h : aHf} {r : Nat × Nat × Nat × Nat} {x : Nat} {W : Dk}
theorem k_scd {v : Nat} (hM : mkOk W.1.2.2.1.1 W.1.2.2.1.2.1 W.1.2.2.1.2.2.1 W.1.2.2.1.2.2.2) (hv : v < 2147483648) : aE (d + 5) 125 [.ref (x + 1 + 7 + 1), .int (iI v)] (dkW h x W, r) = some (.inl (some (.int (bI (0 < v ∧ W.1.2.2.1.2.1 (lu W.1.2.2.1.2.1 v W.1.2.2.1.1) = v)))), (dkW h x W, r)) := by
  have e := s_canDrop (d := d) (a := x + 1 + 7 + 1) (h := dkW h x W) (r := r) (A := W.1.2.2.1.2.2.1) (B := W.1.2.2.1.2.2.2) hM.1 hM.2.1 hv (mkOk_b hM).1
  rw [dk_sp] at e
  exact e
theorem k_scp {v : Nat} (hM : mkOk W.1.2.2.1.1 W.1.2.2.1.2.1 W.1.2.2.1.2.2.1 W.1.2.2.1.2.2.2) (hv : v < 2147483648) : aE (d + 5) 126 [.ref (x + 1 + 7 + 1), .int (iI v)] (dkW h x W, r) = some (.inl (some (.int (bI (W.1.2.2.1.1 < 11 ∨ W.1.2.2.1.2.1 (lu W.1.2.2.1.2.1 v W.1.2.2.1.1) = v)))), (dkW h x W, r)) := by
  have e := s_canPut (d := d) (a := x + 1 + 7 + 1) (h := dkW h x W) (r := r) (A := W.1.2.2.1.2.2.1) (B := W.1.2.2.1.2.2.2) hM.1 hM.2.1 hv (mkOk_b hM).1
  rw [dk_sp] at e
  exact e
theorem k_sdrop {v : Nat} (hM : mkOk W.1.2.2.1.1 W.1.2.2.1.2.1 W.1.2.2.1.2.2.1 W.1.2.2.1.2.2.2) (hv : v < 2147483648) (hc : 0 < v ∧ W.1.2.2.1.2.1 (lu W.1.2.2.1.2.1 v W.1.2.2.1.1) = v) : aE (d + 6) 127 [.ref (x + 1 + 7 + 1), .int (iI v)] (dkW h x W, r) = some (.inl none, (dkW h x (spT W (mkD W.1.2.2.1 v)), r)) := by
  have e := s_mdrop (d := d) (a := x + 1 + 7 + 1) (h := dkW h x W) (r := r) (A := W.1.2.2.1.2.2.1) (B := W.1.2.2.1.2.2.2) hM.1 hM.2.1 hv (mkOk_b hM).1 hc
  rw [dk_sp, dk_sp] at e
  exact e
theorem k_sput {v y z : Nat} (hM : mkOk W.1.2.2.1.1 W.1.2.2.1.2.1 W.1.2.2.1.2.2.1 W.1.2.2.1.2.2.2) (hv : v < 2147483648) (hc : W.1.2.2.1.1 < 11 ∨ W.1.2.2.1.2.1 (lu W.1.2.2.1.2.1 v W.1.2.2.1.1) = v) : aE (d + 6) 128 [.ref (x + 1 + 7 + 1), .int (iI v), .int (iI y), .int (iI z)] (dkW h x W, r) = some (.inl none, (dkW h x (spT W (mkA W.1.2.2.1 v y z)), r)) := by
  have e := s_mput (d := d) (a := x + 1 + 7 + 1) (h := dkW h x W) (r := r) (A := W.1.2.2.1.2.2.1) (B := W.1.2.2.1.2.2.2) (y := y) (z := z) hM.1 hM.2.1 hv (mkOk_b hM).1 hc
  rw [dk_sp] at e
  unfold mkA
  by_cases q : W.1.2.2.1.2.1 (lu W.1.2.2.1.2.1 v W.1.2.2.1.1) = v
  · rw [if_pos q, dk_sp] at e
    rw [if_pos q]
    exact e
  · rw [if_neg q, dk_sp] at e
    rw [if_neg q]
    exact e
theorem k_ssize : aE (d + 1) 122 [.ref (x + 1 + 7 + 1)] (dkW h x W, r) = some (.inl (some (.int (iI W.1.2.2.1.1))), (dkW h x W, r)) := by
  have e := s_msize (d := d) (a := x + 1 + 7 + 1) (n := W.1.2.2.1.1) (h := dkW h x W) (r := r) (P := W.1.2.2.1.2.1) (A := W.1.2.2.1.2.2.1) (B := W.1.2.2.1.2.2.2)
  rw [dk_sp] at e
  exact e
theorem k_mcd {v : Nat} (hM : mkOk W.1.2.2.2.1.1 W.1.2.2.2.1.2.1 W.1.2.2.2.1.2.2.1 W.1.2.2.2.1.2.2.2) (hv : v < 2147483648) : aE (d + 5) 125 [.ref (x + 1 + 12 + 1), .int (iI v)] (dkW h x W, r) = some (.inl (some (.int (bI (0 < v ∧ W.1.2.2.2.1.2.1 (lu W.1.2.2.2.1.2.1 v W.1.2.2.2.1.1) = v)))), (dkW h x W, r)) := by
  have e := s_canDrop (d := d) (a := x + 1 + 12 + 1) (h := dkW h x W) (r := r) (A := W.1.2.2.2.1.2.2.1) (B := W.1.2.2.2.1.2.2.2) hM.1 hM.2.1 hv (mkOk_b hM).1
  rw [dk_mt] at e
  exact e
theorem k_mcp {v : Nat} (hM : mkOk W.1.2.2.2.1.1 W.1.2.2.2.1.2.1 W.1.2.2.2.1.2.2.1 W.1.2.2.2.1.2.2.2) (hv : v < 2147483648) : aE (d + 5) 126 [.ref (x + 1 + 12 + 1), .int (iI v)] (dkW h x W, r) = some (.inl (some (.int (bI (W.1.2.2.2.1.1 < 11 ∨ W.1.2.2.2.1.2.1 (lu W.1.2.2.2.1.2.1 v W.1.2.2.2.1.1) = v)))), (dkW h x W, r)) := by
  have e := s_canPut (d := d) (a := x + 1 + 12 + 1) (h := dkW h x W) (r := r) (A := W.1.2.2.2.1.2.2.1) (B := W.1.2.2.2.1.2.2.2) hM.1 hM.2.1 hv (mkOk_b hM).1
  rw [dk_mt] at e
  exact e
theorem k_mdrop {v : Nat} (hM : mkOk W.1.2.2.2.1.1 W.1.2.2.2.1.2.1 W.1.2.2.2.1.2.2.1 W.1.2.2.2.1.2.2.2) (hv : v < 2147483648) (hc : 0 < v ∧ W.1.2.2.2.1.2.1 (lu W.1.2.2.2.1.2.1 v W.1.2.2.2.1.1) = v) : aE (d + 6) 127 [.ref (x + 1 + 12 + 1), .int (iI v)] (dkW h x W, r) = some (.inl none, (dkW h x (mtT W (mkD W.1.2.2.2.1 v)), r)) := by
  have e := s_mdrop (d := d) (a := x + 1 + 12 + 1) (h := dkW h x W) (r := r) (A := W.1.2.2.2.1.2.2.1) (B := W.1.2.2.2.1.2.2.2) hM.1 hM.2.1 hv (mkOk_b hM).1 hc
  rw [dk_mt, dk_mt] at e
  exact e
theorem k_mput {v y z : Nat} (hM : mkOk W.1.2.2.2.1.1 W.1.2.2.2.1.2.1 W.1.2.2.2.1.2.2.1 W.1.2.2.2.1.2.2.2) (hv : v < 2147483648) (hc : W.1.2.2.2.1.1 < 11 ∨ W.1.2.2.2.1.2.1 (lu W.1.2.2.2.1.2.1 v W.1.2.2.2.1.1) = v) : aE (d + 6) 128 [.ref (x + 1 + 12 + 1), .int (iI v), .int (iI y), .int (iI z)] (dkW h x W, r) = some (.inl none, (dkW h x (mtT W (mkA W.1.2.2.2.1 v y z)), r)) := by
  have e := s_mput (d := d) (a := x + 1 + 12 + 1) (h := dkW h x W) (r := r) (A := W.1.2.2.2.1.2.2.1) (B := W.1.2.2.2.1.2.2.2) (y := y) (z := z) hM.1 hM.2.1 hv (mkOk_b hM).1 hc
  rw [dk_mt] at e
  unfold mkA
  by_cases q : W.1.2.2.2.1.2.1 (lu W.1.2.2.2.1.2.1 v W.1.2.2.2.1.1) = v
  · rw [if_pos q, dk_mt] at e
    rw [if_pos q]
    exact e
  · rw [if_neg q, dk_mt] at e
    rw [if_neg q]
    exact e
theorem k_msize : aE (d + 1) 122 [.ref (x + 1 + 12 + 1)] (dkW h x W, r) = some (.inl (some (.int (iI W.1.2.2.2.1.1))), (dkW h x W, r)) := by
  have e := s_msize (d := d) (a := x + 1 + 12 + 1) (n := W.1.2.2.2.1.1) (h := dkW h x W) (r := r) (P := W.1.2.2.2.1.2.1) (A := W.1.2.2.2.1.2.2.1) (B := W.1.2.2.2.1.2.2.2)
  rw [dk_mt] at e
  exact e
end
section
variable {d n w : Nat} {g : Nat × Nat} {h : aHf} {x : Nat} {W : Dk}
/-! setSpeed -/
theorem s_setSpeed_d {k : Nat} (hO : dkOk W) (hk : k ≤ 9599) (hc : 0 < k ∧ W.1.2.2.1.2.1 (lu W.1.2.2.1.2.1 k W.1.2.2.1.1) = k) (hS : sgOk (spT W (mkD W.1.2.2.1 k)).1) : aE (d + 12) 54 [.ref x, .int (iI k), .int (iI 0)] (dkW h x W, n, w, g) =
    some (.inl (some (.int (iI (W.1.2.2.1.1 - 1 : Nat)))), (dkW h x (seW (spT W (mkD W.1.2.2.1 k))), n, w, g)) := by
  have hM := hO.1.2.2.2.2.2.1
  have q1 : (0 : Int) ≤ k ∧ (k : Int) ≤ 9599 := by omega
  have d2 := s_settle (d := d + 5) (h := h) (r := (n, w, g)) (x := x) (W := spT W (mkD W.1.2.2.1 k)) hS hO.2.1
  simp (disch := omega) only [e54, r54_0, r54_1, r54_4, r54_7, r54_8, r54_11, r54_12, r54_15, r54_18, r54_21, r54_24, r54_34, r54_35, r54_38, r54_41, r54_44, r54_45, r54_46, r54_49, r54_50, r54_51, r54_54, r54_57, r54_60, r54_61, r54_62, r54_65, r54_68, r54_78, r54_79, r54_82, r54_83, r54_84, r54_87, r54_90, r54_91, r54_92, r54_93, r54_94, r54_97, r54_98, r54_101, r54_102, r54_105, s_isTick, q1, k_scd hM (show k < 2147483648 by omega), hc, k_sdrop hM (show k < 2147483648 by omega) hc, d2, dk_0, dk_1, dk_8, dk_spI.1, k_ssize, seW_1, kl_n, kl_i, kl_r, kl_z, kl_l, kl_d, catS_0, catS_c, cat_i, cat_l, cat_d, cat_r, cat_n, kC_r, kC_x, Option.bind_some, Option.toList_some, Option.toList_none, List.cons_append, List.nil_append, gB0, gB1, gB2, gB3, gB4, rvB, nI_iI, i0, i1, l0_, wr_s, aup_s, and_true, true_and, and_self, eq_self, if_true, if_false, Nat.zero_le, Nat.reduceAdd, Nat.reduceLeDiff, gN_I, gN_L, gN_P, bI_0, bI_ok, z0, z1, Bool.true_eq, Bool.false_eq_true, not_true_eq_false, not_false_eq_true]
  rfl
theorem s_setSpeed {k v : Nat} (hO : dkOk W) (hk : k ≤ 9599) (hv : 200 ≤ v ∧ v ≤ 3000) (hc : W.1.2.2.1.1 < 11 ∨ W.1.2.2.1.2.1 (lu W.1.2.2.1.2.1 k W.1.2.2.1.1) = k) (hS : sgOk (spT W (mkA W.1.2.2.1 k v 0)).1) : aE (d + 12) 54 [.ref x, .int (iI k), .int (iI v)] (dkW h x W, n, w, g) =
    some (.inl (some (.int (iI (mkA W.1.2.2.1 k v 0).1))), (dkW h x (seW (spT W (mkA W.1.2.2.1 k v 0))), n, w, g)) := by
  have hM := hO.1.2.2.2.2.2.1
  have q1 : (0 : Int) ≤ k ∧ (k : Int) ≤ 9599 := by omega
  have q2 : (200 : Int) ≤ v ∧ (v : Int) ≤ 3000 := by omega
  have q3 : ¬ (v : Int) = 0 := by omega
  have d1 := k_sput (d := d + 5) (h := h) (r := (n, w, g)) (x := x) (W := W) (y := v) (z := 0) hM (show k < 2147483648 by omega) hc
  rw [show ((0 : Nat) : Int) = 0 from rfl] at d1
  have d2 := s_settle (d := d + 5) (h := h) (r := (n, w, g)) (x := x) (W := spT W (mkA W.1.2.2.1 k v 0)) hS hO.2.1
  have hc' : (W.1.2.2.1.1 < 11 ∨ W.1.2.2.1.2.1 (lu W.1.2.2.1.2.1 k W.1.2.2.1.1) = k) = True := eq_true hc
  simp (disch := omega) only [e54, r54_0, r54_1, r54_4, r54_7, r54_8, r54_11, r54_12, r54_15, r54_18, r54_21, r54_24, r54_34, r54_35, r54_38, r54_41, r54_44, r54_45, r54_46, r54_49, r54_50, r54_51, r54_54, r54_57, r54_60, r54_61, r54_62, r54_65, r54_68, r54_78, r54_79, r54_82, r54_83, r54_84, r54_87, r54_90, r54_91, r54_92, r54_93, r54_94, r54_97, r54_98, r54_101, r54_102, r54_105, s_isTick, q1, s_isWithin, q2, iI_eq, q3, k_scp hM (show k < 2147483648 by omega), hc', d1, d2, dk_0, dk_1, dk_8, dk_spI.1, k_ssize, seW_1, kl_n, kl_i, kl_r, kl_z, kl_l, kl_d, catS_0, catS_c, cat_i, cat_l, cat_d, cat_r, cat_n, kC_r, kC_x, Option.bind_some, Option.toList_some, Option.toList_none, List.cons_append, List.nil_append, gB0, gB1, gB2, gB3, gB4, rvB, nI_iI, i0, i1, l0_, wr_s, aup_s, and_true, true_and, and_self, eq_self, if_true, if_false, Nat.zero_le, Nat.reduceAdd, Nat.reduceLeDiff, gN_I, gN_L, gN_P, bI_0, bI_ok, z0, z1, Bool.true_eq, Bool.false_eq_true, not_true_eq_false, not_false_eq_true]
  rfl
theorem s_setSpeed_1 {k v : Int} (b1 : -2147483648 ≤ k ∧ k < 2147483648) (b2 : -2147483648 ≤ v ∧ v < 2147483648) (hc : ¬ ((0 ≤ k ∧ k ≤ 9599) ∧ (v = 0 ∨ (200 ≤ v ∧ v ≤ 3000)))) : aE (d + 12) 54 [.ref x, .int (iI k), .int (iI v)] (dkW h x W, n, w, g) = some (.inr "java/lang/IllegalArgumentException", (dkW h x W, n + 1, w + 6, g)) := by
  have c8 : 8 ≤ d + 11 := by omega
  simp (disch := omega) only [e54, r54_0, r54_1, r54_4, r54_7, r54_8, r54_11, r54_12, r54_15, r54_18, r54_21, r54_24, s_isTick, s_isWithin, iI_eq, c8, ite_not, kl_n, kl_i, kl_r, kl_z, kl_l, kl_d, catS_0, catS_c, cat_i, cat_l, cat_d, cat_r, cat_n, kC_r, kC_x, Option.bind_some, Option.toList_some, Option.toList_none, List.cons_append, List.nil_append, gB0, gB1, gB2, gB3, gB4, rvB, nI_iI, i0, i1, l0_, wr_s, aup_s, and_true, true_and, and_self, eq_self, if_true, if_false, Nat.zero_le, Nat.reduceAdd, Nat.reduceLeDiff, gN_I, gN_L, gN_P, bI_0, bI_ok, z0, z1, Bool.true_eq, Bool.false_eq_true, not_true_eq_false, not_false_eq_true]
  repeat' split
  all_goals first
    | rfl
    | (exfalso; omega)
theorem s_setSpeed_2 {k v : Nat} (hO : dkOk W) (hk : k ≤ 9599) (hv : v = 0 ∨ (200 ≤ v ∧ v ≤ 3000)) (hc : ¬ (if v = 0 then (0 < k ∧ W.1.2.2.1.2.1 (lu W.1.2.2.1.2.1 k W.1.2.2.1.1) = k) else (W.1.2.2.1.1 < 11 ∨ W.1.2.2.1.2.1 (lu W.1.2.2.1.2.1 k W.1.2.2.1.1) = k))) : aE (d + 12) 54 [.ref x, .int (iI k), .int (iI v)] (dkW h x W, n, w, g) =
    some (.inr "java/lang/IllegalStateException", (dkW h x W, n + 1, w + 6, g)) := by
  have c8 : 8 ≤ d + 11 := by omega
  have hM := hO.1.2.2.2.2.2.1
  have q1 : (0 : Int) ≤ k ∧ (k : Int) ≤ 9599 := by omega
  by_cases q : v = 0
  · subst q
    rw [if_pos rfl] at hc
    have hc' := eq_false hc
    rw [show ((0 : Nat) : Int) = 0 from rfl]
    simp (disch := omega) only [e54, r54_0, r54_1, r54_4, r54_7, r54_8, r54_11, r54_12, r54_15, r54_18, r54_21, r54_24, r54_34, r54_35, r54_38, r54_41, r54_44, r54_45, r54_46, r54_49, r54_50, r54_51, r54_54, r54_57, r54_60, r54_61, r54_62, r54_65, r54_68, r54_78, r54_79, r54_82, r54_83, r54_84, r54_87, r54_90, r54_91, r54_92, r54_93, r54_94, r54_97, r54_98, r54_101, r54_102, r54_105, s_isTick, q1, k_scd hM (show k < 2147483648 by omega), hc', c8, dk_0, dk_1, dk_8, dk_spI.1, kl_n, kl_i, kl_r, kl_z, kl_l, kl_d, catS_0, catS_c, cat_i, cat_l, cat_d, cat_r, cat_n, kC_r, kC_x, Option.bind_some, Option.toList_some, Option.toList_none, List.cons_append, List.nil_append, gB0, gB1, gB2, gB3, gB4, rvB, nI_iI, i0, i1, l0_, wr_s, aup_s, and_true, true_and, and_self, eq_self, if_true, if_false, Nat.zero_le, Nat.reduceAdd, Nat.reduceLeDiff, gN_I, gN_L, gN_P, bI_0, bI_ok, z0, z1, Bool.true_eq, Bool.false_eq_true, not_true_eq_false, not_false_eq_true]
  · rw [if_neg q] at hc
    have hc' := eq_false hc
    have q2 : (200 : Int) ≤ v ∧ (v : Int) ≤ 3000 := by omega
    have q3 : ¬ (v : Int) = 0 := by omega
    simp (disch := omega) only [e54, r54_0, r54_1, r54_4, r54_7, r54_8, r54_11, r54_12, r54_15, r54_18, r54_21, r54_24, r54_34, r54_35, r54_38, r54_41, r54_44, r54_45, r54_46, r54_49, r54_50, r54_51, r54_54, r54_57, r54_60, r54_61, r54_62, r54_65, r54_68, r54_78, r54_79, r54_82, r54_83, r54_84, r54_87, r54_90, r54_91, r54_92, r54_93, r54_94, r54_97, r54_98, r54_101, r54_102, r54_105, s_isTick, q1, s_isWithin, q2, iI_eq, q3, k_scp hM (show k < 2147483648 by omega), hc', c8, dk_0, dk_1, dk_8, dk_spI.1, kl_n, kl_i, kl_r, kl_z, kl_l, kl_d, catS_0, catS_c, cat_i, cat_l, cat_d, cat_r, cat_n, kC_r, kC_x, Option.bind_some, Option.toList_some, Option.toList_none, List.cons_append, List.nil_append, gB0, gB1, gB2, gB3, gB4, rvB, nI_iI, i0, i1, l0_, wr_s, aup_s, and_true, true_and, and_self, eq_self, if_true, if_false, Nat.zero_le, Nat.reduceAdd, Nat.reduceLeDiff, gN_I, gN_L, gN_P, bI_0, bI_ok, z0, z1, Bool.true_eq, Bool.false_eq_true, not_true_eq_false, not_false_eq_true]
/-! setMeter -/
theorem s_setMeter_d {k : Nat} {z : Int} (hO : dkOk W) (hk : k ≤ 99) (bz : -2147483648 ≤ z ∧ z < 2147483648) (hc : 0 < k ∧ W.1.2.2.2.1.2.1 (lu W.1.2.2.2.1.2.1 k W.1.2.2.2.1.1) = k) (hS : sgOk (mtT W (mkD W.1.2.2.2.1 k)).1) : aE (d + 12) 55 [.ref x, .int (iI k), .int (iI 0), .int (iI z)] (dkW h x W, n, w, g) =
    some (.inl (some (.int (iI (W.1.2.2.2.1.1 - 1 : Nat)))), (dkW h x (seW (mtT W (mkD W.1.2.2.2.1 k))), n, w, g)) := by
  have hM := hO.1.2.2.2.2.2.2.1
  have q1 : (0 : Int) ≤ k ∧ (k : Int) ≤ 99 := by omega
  have q2 : (0 : Int) ≤ 0 ∧ (0 : Int) ≤ 16 := by omega
  have d2 := s_settle (d := d + 5) (h := h) (r := (n, w, g)) (x := x) (W := mtT W (mkD W.1.2.2.2.1 k)) hS hO.2.1
  simp (disch := omega) only [e55, r55_0, r55_1, r55_2, r55_4, r55_7, r55_10, r55_11, r55_12, r55_14, r55_17, r55_20, r55_30, r55_31, r55_34, r55_35, r55_36, r55_39, r55_40, r55_41, r55_44, r55_45, r55_47, r55_50, r55_51, r55_53, r55_56, r55_66, r55_67, r55_70, r55_73, r55_76, r55_78, r55_79, r55_82, r55_84, r55_85, r55_88, r55_91, r55_94, r55_96, r55_97, r55_100, r55_103, r55_113, r55_114, r55_117, r55_119, r55_120, r55_123, r55_126, r55_128, r55_129, r55_130, r55_131, r55_134, r55_135, r55_138, r55_140, r55_143, s_isWithin, q1, q2, iI_le, Int.le_refl, k_mcd hM (show k < 2147483648 by omega), hc, k_mdrop hM (show k < 2147483648 by omega) hc, d2, dk_0, dk_1, dk_13, dk_mtI.1, k_msize, seW_1, kl_n, kl_i, kl_r, kl_z, kl_l, kl_d, catS_0, catS_c, cat_i, cat_l, cat_d, cat_r, cat_n, kC_r, kC_x, Option.bind_some, Option.toList_some, Option.toList_none, List.cons_append, List.nil_append, gB0, gB1, gB2, gB3, gB4, rvB, nI_iI, i0, i1, l0_, wr_s, aup_s, and_true, true_and, and_self, eq_self, if_true, if_false, Nat.zero_le, Nat.reduceAdd, Nat.reduceLeDiff, gN_I, gN_L, gN_P, bI_0, bI_ok, z0, z1, Bool.true_eq, Bool.false_eq_true, not_true_eq_false, not_false_eq_true]
  rfl
theorem s_setMeter {k y z : Nat} (hO : dkOk W) (hk : k ≤ 99) (hy : 1 ≤ y ∧ y ≤ 16) (hz : z = 2 ∨ z = 4 ∨ z = 8 ∨ z = 16) (hc : W.1.2.2.2.1.1 < 11 ∨ W.1.2.2.2.1.2.1 (lu W.1.2.2.2.1.2.1 k W.1.2.2.2.1.1) = k) (hS : sgOk (mtT W (mkA W.1.2.2.2.1 k y z)).1) : aE (d + 12) 55 [.ref x, .int (iI k), .int (iI y), .int (iI z)] (dkW h x W, n, w, g) =
    some (.inl (some (.int (iI (mkA W.1.2.2.2.1 k y z).1))), (dkW h x (seW (mtT W (mkA W.1.2.2.2.1 k y z))), n, w, g)) := by
  have hM := hO.1.2.2.2.2.2.2.1
  have q1 : (0 : Int) ≤ k ∧ (k : Int) ≤ 99 := by omega
  have q2 : (0 : Int) ≤ y ∧ (y : Int) ≤ 16 := by omega
  have q3 : ¬ (y : Int) ≤ 0 := by omega
  have q4 : ¬ (y : Int) = 0 := by omega
  have d1 := k_mput (d := d + 5) (h := h) (r := (n, w, g)) (x := x) (W := W) (y := y) (z := z) hM (show k < 2147483648 by omega) hc
  have d2 := s_settle (d := d + 5) (h := h) (r := (n, w, g)) (x := x) (W := mtT W (mkA W.1.2.2.2.1 k y z)) hS hO.2.1
  have hc' : (W.1.2.2.2.1.1 < 11 ∨ W.1.2.2.2.1.2.1 (lu W.1.2.2.2.1.2.1 k W.1.2.2.2.1.1) = k) = True := eq_true hc
  have key : L (d + 11) 55 66 [some (.ref x), some (.int (iI k)), some (.int (iI y)), some (.int (iI z)), none] [] (dkW h x W, n, w, g) = some (.inl (some (.int (iI (mkA W.1.2.2.2.1 k y z).1))), (dkW h x (seW (mtT W (mkA W.1.2.2.2.1 k y z))), n, w, g)) := by
    simp (disch := omega) only [r55_0, r55_1, r55_2, r55_4, r55_7, r55_10, r55_11, r55_12, r55_14, r55_17, r55_20, r55_30, r55_31, r55_34, r55_35, r55_36, r55_39, r55_40, r55_41, r55_44, r55_45, r55_47, r55_50, r55_51, r55_53, r55_56, r55_66, r55_67, r55_70, r55_73, r55_76, r55_78, r55_79, r55_82, r55_84, r55_85, r55_88, r55_91, r55_94, r55_96, r55_97, r55_100, r55_103, r55_113, r55_114, r55_117, r55_119, r55_120, r55_123, r55_126, r55_128, r55_129, r55_130, r55_131, r55_134, r55_135, r55_138, r55_140, r55_143, iI_eq, q4, k_mcp hM (show k < 2147483648 by omega), hc', d1, d2, dk_0, dk_1, dk_13, dk_mtI.1, k_msize, seW_1, kl_n, kl_i, kl_r, kl_z, kl_l, kl_d, catS_0, catS_c, cat_i, cat_l, cat_d, cat_r, cat_n, kC_r, kC_x, Option.bind_some, Option.toList_some, Option.toList_none, List.cons_append, List.nil_append, gB0, gB1, gB2, gB3, gB4, rvB, nI_iI, i0, i1, l0_, wr_s, aup_s, and_true, true_and, and_self, eq_self, if_true, if_false, Nat.zero_le, Nat.reduceAdd, Nat.reduceLeDiff, gN_I, gN_L, gN_P, bI_0, bI_ok, z0, z1, Bool.true_eq, Bool.false_eq_true, not_true_eq_false, not_false_eq_true]
    rfl
  have h2 : ∀ v : Int, v = 2 ∨ v = 4 ∨ v = 8 ∨ v = 16 → aE (d + 12) 55 [.ref x, .int (iI k), .int (iI y), .int (iI v)] (dkW h x W, n, w, g) = L (d + 11) 55 66 [some (.ref x), some (.int (iI k)), some (.int (iI y)), some (.int (iI v)), none] [] (dkW h x W, n, w, g) := by
    intro v hv
    have f1 : ¬ (4 : Int) = 2 := by omega
    have f2 : ¬ (8 : Int) = 2 := by omega
    have f3 : ¬ (8 : Int) = 4 := by omega
    have f4 : ¬ (16 : Int) = 2 := by omega
    have f5 : ¬ (16 : Int) = 4 := by omega
    have f6 : ¬ (16 : Int) = 8 := by omega
    rcases hv with rfl | rfl | rfl | rfl <;> simp (disch := omega) only [e55, r55_0, r55_1, r55_2, r55_4, r55_7, r55_10, r55_11, r55_12, r55_14, r55_17, r55_20, r55_30, r55_31, r55_34, r55_35, r55_36, r55_39, r55_40, r55_41, r55_44, r55_45, r55_47, r55_50, r55_51, r55_53, r55_56, s_isWithin, q1, q2, iI_le, iI_eq, q3, f1, f2, f3, f4, f5, f6, kl_n, kl_i, kl_r, kl_z, kl_l, kl_d, catS_0, catS_c, cat_i, cat_l, cat_d, cat_r, cat_n, kC_r, kC_x, Option.bind_some, Option.toList_some, Option.toList_none, List.cons_append, List.nil_append, gB0, gB1, gB2, gB3, gB4, rvB, nI_iI, i0, i1, l0_, wr_s, aup_s, and_true, true_and, and_self, eq_self, if_true, if_false, Nat.zero_le, Nat.reduceAdd, Nat.reduceLeDiff, gN_I, gN_L, gN_P, bI_0, bI_ok, z0, z1, Bool.true_eq, Bool.false_eq_true, not_true_eq_false, not_false_eq_true]
  rw [h2 z (by omega), key]
theorem s_setMeter_1 {k y z : Int} (b1 : -2147483648 ≤ k ∧ k < 2147483648) (b2 : -2147483648 ≤ y ∧ y < 2147483648) (b3 : -2147483648 ≤ z ∧ z < 2147483648) (hc : ¬ ((0 ≤ k ∧ k ≤ 99) ∧ (0 ≤ y ∧ y ≤ 16) ∧ (y = 0 ∨ z = 2 ∨ z = 4 ∨ z = 8 ∨ z = 16))) : aE (d + 12) 55 [.ref x, .int (iI k), .int (iI y), .int (iI z)] (dkW h x W, n, w, g) =
    some (.inr "java/lang/IllegalArgumentException", (dkW h x W, n + 1, w + 6, g)) := by
  have c8 : 8 ≤ d + 11 := by omega
  simp (disch := omega) only [e55, r55_0, r55_1, r55_2, r55_4, r55_7, r55_10, r55_11, r55_12, r55_14, r55_17, r55_20, r55_30, r55_31, r55_34, r55_35, r55_36, r55_39, r55_40, r55_41, r55_44, r55_45, r55_47, r55_50, r55_51, r55_53, r55_56, s_isWithin, iI_le, iI_eq, c8, ite_not, kl_n, kl_i, kl_r, kl_z, kl_l, kl_d, catS_0, catS_c, cat_i, cat_l, cat_d, cat_r, cat_n, kC_r, kC_x, Option.bind_some, Option.toList_some, Option.toList_none, List.cons_append, List.nil_append, gB0, gB1, gB2, gB3, gB4, rvB, nI_iI, i0, i1, l0_, wr_s, aup_s, and_true, true_and, and_self, eq_self, if_true, if_false, Nat.zero_le, Nat.reduceAdd, Nat.reduceLeDiff, gN_I, gN_L, gN_P, bI_0, bI_ok, z0, z1, Bool.true_eq, Bool.false_eq_true, not_true_eq_false, not_false_eq_true]
  repeat' split
  all_goals first
    | rfl
    | (exfalso; omega)
theorem s_setMeter_2 {k y z : Nat} (hO : dkOk W) (hk : k ≤ 99) (hy : y ≤ 16) (bz : z < 2147483648) (hz : y = 0 ∨ z = 2 ∨ z = 4 ∨ z = 8 ∨ z = 16) (hc : ¬ (if y = 0 then (0 < k ∧ W.1.2.2.2.1.2.1 (lu W.1.2.2.2.1.2.1 k W.1.2.2.2.1.1) = k) else (W.1.2.2.2.1.1 < 11 ∨ W.1.2.2.2.1.2.1 (lu W.1.2.2.2.1.2.1 k W.1.2.2.2.1.1) = k))) : aE (d + 12) 55 [.ref x, .int (iI k), .int (iI y), .int (iI z)] (dkW h x W, n, w, g) =
    some (.inr "java/lang/IllegalStateException", (dkW h x W, n + 1, w + 6, g)) := by
  have c8 : 8 ≤ d + 11 := by omega
  have hM := hO.1.2.2.2.2.2.2.1
  have q1 : (0 : Int) ≤ k ∧ (k : Int) ≤ 99 := by omega
  have q2 : (0 : Int) ≤ y ∧ (y : Int) ≤ 16 := by omega
  have h2 : aE (d + 12) 55 [.ref x, .int (iI k), .int (iI y), .int (iI z)] (dkW h x W, n, w, g) = L (d + 11) 55 66 [some (.ref x), some (.int (iI k)), some (.int (iI y)), some (.int (iI z)), none] [] (dkW h x W, n, w, g) := by
    simp (disch := omega) only [e55, r55_0, r55_1, r55_2, r55_4, r55_7, r55_10, r55_11, r55_12, r55_14, r55_17, r55_20, r55_30, r55_31, r55_34, r55_35, r55_36, r55_39, r55_40, r55_41, r55_44, r55_45, r55_47, r55_50, r55_51, r55_53, r55_56, s_isWithin, q1, q2, iI_le, iI_eq, ite_not, kl_n, kl_i, kl_r, kl_z, kl_l, kl_d, catS_0, catS_c, cat_i, cat_l, cat_d, cat_r, cat_n, kC_r, kC_x, Option.bind_some, Option.toList_some, Option.toList_none, List.cons_append, List.nil_append, gB0, gB1, gB2, gB3, gB4, rvB, nI_iI, i0, i1, l0_, wr_s, aup_s, and_true, true_and, and_self, eq_self, if_true, if_false, Nat.zero_le, Nat.reduceAdd, Nat.reduceLeDiff, gN_I, gN_L, gN_P, bI_0, bI_ok, z0, z1, Bool.true_eq, Bool.false_eq_true, not_true_eq_false, not_false_eq_true]
    repeat' split
    all_goals first
      | rfl
      | (exfalso; omega)
  rw [h2]
  by_cases q : y = 0
  · subst q
    rw [if_pos rfl] at hc
    have hc' := eq_false hc
    have q5 : ((0 : Nat) : Int) = 0 := rfl
    simp (disch := omega) only [r55_66, r55_67, r55_70, r55_73, r55_76, r55_78, r55_79, r55_82, r55_84, r55_85, r55_88, r55_91, r55_94, r55_96, r55_97, r55_100, r55_103, r55_113, r55_114, r55_117, r55_119, r55_120, r55_123, r55_126, r55_128, r55_129, r55_130, r55_131, r55_134, r55_135, r55_138, r55_140, r55_143, iI_eq, q5, k_mcd hM (show k < 2147483648 by omega), hc', c8, dk_0, dk_1, dk_13, dk_mtI.1, kl_n, kl_i, kl_r, kl_z, kl_l, kl_d, catS_0, catS_c, cat_i, cat_l, cat_d, cat_r, cat_n, kC_r, kC_x, Option.bind_some, Option.toList_some, Option.toList_none, List.cons_append, List.nil_append, gB0, gB1, gB2, gB3, gB4, rvB, nI_iI, i0, i1, l0_, wr_s, aup_s, and_true, true_and, and_self, eq_self, if_true, if_false, Nat.zero_le, Nat.reduceAdd, Nat.reduceLeDiff, gN_I, gN_L, gN_P, bI_0, bI_ok, z0, z1, Bool.true_eq, Bool.false_eq_true, not_true_eq_false, not_false_eq_true]
  · rw [if_neg q] at hc
    have hc' := eq_false hc
    have q3 : ¬ (y : Int) = 0 := by omega
    simp (disch := omega) only [r55_66, r55_67, r55_70, r55_73, r55_76, r55_78, r55_79, r55_82, r55_84, r55_85, r55_88, r55_91, r55_94, r55_96, r55_97, r55_100, r55_103, r55_113, r55_114, r55_117, r55_119, r55_120, r55_123, r55_126, r55_128, r55_129, r55_130, r55_131, r55_134, r55_135, r55_138, r55_140, r55_143, iI_eq, q3, k_mcp hM (show k < 2147483648 by omega), hc', c8, dk_0, dk_1, dk_13, dk_mtI.1, kl_n, kl_i, kl_r, kl_z, kl_l, kl_d, catS_0, catS_c, cat_i, cat_l, cat_d, cat_r, cat_n, kC_r, kC_x, Option.bind_some, Option.toList_some, Option.toList_none, List.cons_append, List.nil_append, gB0, gB1, gB2, gB3, gB4, rvB, nI_iI, i0, i1, l0_, wr_s, aup_s, and_true, true_and, and_self, eq_self, if_true, if_false, Nat.zero_le, Nat.reduceAdd, Nat.reduceLeDiff, gN_I, gN_L, gN_P, bI_0, bI_ok, z0, z1, Bool.true_eq, Bool.false_eq_true, not_true_eq_false, not_false_eq_true]
/-! when and where -/
theorem s_timeOf {t : Nat} (hO : dkOk W) (ht : t ≤ 99999) : aE (d + 12) 64 [.ref x, .int (iI t)] (dkW h x W, n, w, g) = some (.inl (some (.int (iI (sm (tmT W.1.2.2.1.2.1 W.1.2.2.1.2.2.1 W.1.2.2.1.1 t) W.1.2.2.1.1)))), (dkW h x W, n, w, g)) := by
  have q1 : (0 : Int) ≤ t ∧ (t : Int) ≤ 99999 := by omega
  simp (disch := omega) only [e64, r64_0, r64_1, r64_4, r64_7, r64_17, r64_18, r64_21, r64_24, r64_25, r64_28, s_isFarTick, q1, s_timeAt dk_spI dk_8 hO.1.2.2.2.2.2.1 (show t < 131072 by omega), dk_0, dk_1, dk_8, kl_n, kl_i, kl_r, kl_z, kl_l, kl_d, catS_0, catS_c, cat_i, cat_l, cat_d, cat_r, cat_n, kC_r, kC_x, Option.bind_some, Option.toList_some, Option.toList_none, List.cons_append, List.nil_append, gB0, gB1, gB2, gB3, gB4, rvB, nI_iI, i0, i1, l0_, wr_s, aup_s, and_true, true_and, and_self, eq_self, if_true, if_false, Nat.zero_le, Nat.reduceAdd, Nat.reduceLeDiff, gN_I, gN_L, gN_P, bI_0, bI_ok, z0, z1, Bool.true_eq, Bool.false_eq_true, not_true_eq_false, not_false_eq_true]
theorem s_timeOf_1 {t : Int} (b1 : -2147483648 ≤ t ∧ t < 2147483648) (hc : ¬ (0 ≤ t ∧ t ≤ 99999)) : aE (d + 12) 64 [.ref x, .int (iI t)] (dkW h x W, n, w, g) = some (.inr "java/lang/IllegalArgumentException", (dkW h x W, n + 1, w + 6, g)) := by
  have c8 : 8 ≤ d + 11 := by omega
  simp (disch := omega) only [e64, r64_0, r64_1, r64_4, r64_7, s_isFarTick, c8, kl_n, kl_i, kl_r, kl_z, kl_l, kl_d, catS_0, catS_c, cat_i, cat_l, cat_d, cat_r, cat_n, kC_r, kC_x, Option.bind_some, Option.toList_some, Option.toList_none, List.cons_append, List.nil_append, gB0, gB1, gB2, gB3, gB4, rvB, nI_iI, i0, i1, l0_, wr_s, aup_s, and_true, true_and, and_self, eq_self, if_true, if_false, Nat.zero_le, Nat.reduceAdd, Nat.reduceLeDiff, gN_I, gN_L, gN_P, bI_0, bI_ok, z0, z1, Bool.true_eq, Bool.false_eq_true, not_true_eq_false, not_false_eq_true]
  rw [if_pos hc]
/-- no time is too long for an int -/
def tmOk (V : MKv) : Prop := ∀ t, t < 131072 → sm (tmT V.2.1 V.2.2.1 V.1 t) V.1 < 2147483648
theorem s_tickOf {t : Nat} (hO : dkOk W) (hT : tmOk W.1.2.2.1) (ht : t < 2147483648) : aE (d + 12) 65 [.ref x, .int (iI t)] (dkW h x W, n, w, g) = some (.inl (some (.int (iI (tkA (fun t => sm (tmT W.1.2.2.1.2.1 W.1.2.2.1.2.2.1 W.1.2.2.1.1 t) W.1.2.2.1.1) t 17 0)))), (dkW h x W, n, w, g)) := by
  have q1 : (0 : Int) ≤ t := by omega
  simp (disch := omega) only [e65, r65_0, r65_1, r65_4, r65_15, r65_16, r65_19, r65_22, r65_23, r65_26, iI_le, q1, s_tickAt dk_spI dk_8 hO.1.2.2.2.2.2.1 ht hT, dk_0, dk_1, dk_8, kl_n, kl_i, kl_r, kl_z, kl_l, kl_d, catS_0, catS_c, cat_i, cat_l, cat_d, cat_r, cat_n, kC_r, kC_x, Option.bind_some, Option.toList_some, Option.toList_none, List.cons_append, List.nil_append, gB0, gB1, gB2, gB3, gB4, rvB, nI_iI, i0, i1, l0_, wr_s, aup_s, and_true, true_and, and_self, eq_self, if_true, if_false, Nat.zero_le, Nat.reduceAdd, Nat.reduceLeDiff, gN_I, gN_L, gN_P, bI_0, bI_ok, z0, z1, Bool.true_eq, Bool.false_eq_true, not_true_eq_false, not_false_eq_true]
theorem s_tickOf_1 {t : Int} (b1 : -2147483648 ≤ t ∧ t < 2147483648) (hc : ¬ 0 ≤ t) : aE (d + 12) 65 [.ref x, .int (iI t)] (dkW h x W, n, w, g) = some (.inr "java/lang/IllegalArgumentException", (dkW h x W, n + 1, w + 6, g)) := by
  have c8 : 8 ≤ d + 11 := by omega
  simp (disch := omega) only [e65, r65_0, r65_1, r65_4, iI_le, hc, c8, kl_n, kl_i, kl_r, kl_z, kl_l, kl_d, catS_0, catS_c, cat_i, cat_l, cat_d, cat_r, cat_n, kC_r, kC_x, Option.bind_some, Option.toList_some, Option.toList_none, List.cons_append, List.nil_append, gB0, gB1, gB2, gB3, gB4, rvB, nI_iI, i0, i1, l0_, wr_s, aup_s, and_true, true_and, and_self, eq_self, if_true, if_false, Nat.zero_le, Nat.reduceAdd, Nat.reduceLeDiff, gN_I, gN_L, gN_P, bI_0, bI_ok, z0, z1, Bool.true_eq, Bool.false_eq_true, not_true_eq_false, not_false_eq_true]
theorem s_barOf {t : Nat} (hO : dkOk W) (ht : t ≤ 99999) : aE (d + 12) 66 [.ref x, .int (iI t)] (dkW h x W, n, w, g) = some (.inl (some (.int (iI (bAt W.1.2.2.2.1.1 W.1.2.2.2.1.2.1 W.1.2.2.2.1.2.2.1 W.1.2.2.2.1.2.2.2 t)))), (dkW h x W, n, w, g)) := by
  have q1 : (0 : Int) ≤ t ∧ (t : Int) ≤ 99999 := by omega
  simp (disch := omega) only [e66, r66_0, r66_1, r66_4, r66_7, r66_17, r66_18, r66_21, r66_24, r66_25, r66_28, s_isFarTick, q1, s_barAt dk_mtI dk_13 hO.1.2.2.2.2.2.2.1 hO.1.2.2.2.2.2.2.2.1 (show t < 2147483648 by omega), dk_0, dk_1, dk_13, kl_n, kl_i, kl_r, kl_z, kl_l, kl_d, catS_0, catS_c, cat_i, cat_l, cat_d, cat_r, cat_n, kC_r, kC_x, Option.bind_some, Option.toList_some, Option.toList_none, List.cons_append, List.nil_append, gB0, gB1, gB2, gB3, gB4, rvB, nI_iI, i0, i1, l0_, wr_s, aup_s, and_true, true_and, and_self, eq_self, if_true, if_false, Nat.zero_le, Nat.reduceAdd, Nat.reduceLeDiff, gN_I, gN_L, gN_P, bI_0, bI_ok, z0, z1, Bool.true_eq, Bool.false_eq_true, not_true_eq_false, not_false_eq_true]
theorem s_barOf_1 {t : Int} (b1 : -2147483648 ≤ t ∧ t < 2147483648) (hc : ¬ (0 ≤ t ∧ t ≤ 99999)) : aE (d + 12) 66 [.ref x, .int (iI t)] (dkW h x W, n, w, g) = some (.inr "java/lang/IllegalArgumentException", (dkW h x W, n + 1, w + 6, g)) := by
  have c8 : 8 ≤ d + 11 := by omega
  simp (disch := omega) only [e66, r66_0, r66_1, r66_4, r66_7, s_isFarTick, c8, kl_n, kl_i, kl_r, kl_z, kl_l, kl_d, catS_0, catS_c, cat_i, cat_l, cat_d, cat_r, cat_n, kC_r, kC_x, Option.bind_some, Option.toList_some, Option.toList_none, List.cons_append, List.nil_append, gB0, gB1, gB2, gB3, gB4, rvB, nI_iI, i0, i1, l0_, wr_s, aup_s, and_true, true_and, and_self, eq_self, if_true, if_false, Nat.zero_le, Nat.reduceAdd, Nat.reduceLeDiff, gN_I, gN_L, gN_P, bI_0, bI_ok, z0, z1, Bool.true_eq, Bool.false_eq_true, not_true_eq_false, not_false_eq_true]
  rw [if_pos hc]
theorem s_beatOf {t : Nat} (hO : dkOk W) (ht : t ≤ 99999) : aE (d + 12) 67 [.ref x, .int (iI t)] (dkW h x W, n, w, g) = some (.inl (some (.int (iI (btAt W.1.2.2.2.1.1 W.1.2.2.2.1.2.1 W.1.2.2.2.1.2.2.1 W.1.2.2.2.1.2.2.2 t)))), (dkW h x W, n, w, g)) := by
  have q1 : (0 : Int) ≤ t ∧ (t : Int) ≤ 99999 := by omega
  simp (disch := omega) only [e67, r67_0, r67_1, r67_4, r67_7, r67_17, r67_18, r67_21, r67_24, r67_25, r67_28, s_isFarTick, q1, s_beatAt dk_mtI dk_13 hO.1.2.2.2.2.2.2.1 hO.1.2.2.2.2.2.2.2.1 (show t < 2147483648 by omega), dk_0, dk_1, dk_13, kl_n, kl_i, kl_r, kl_z, kl_l, kl_d, catS_0, catS_c, cat_i, cat_l, cat_d, cat_r, cat_n, kC_r, kC_x, Option.bind_some, Option.toList_some, Option.toList_none, List.cons_append, List.nil_append, gB0, gB1, gB2, gB3, gB4, rvB, nI_iI, i0, i1, l0_, wr_s, aup_s, and_true, true_and, and_self, eq_self, if_true, if_false, Nat.zero_le, Nat.reduceAdd, Nat.reduceLeDiff, gN_I, gN_L, gN_P, bI_0, bI_ok, z0, z1, Bool.true_eq, Bool.false_eq_true, not_true_eq_false, not_false_eq_true]
theorem s_beatOf_1 {t : Int} (b1 : -2147483648 ≤ t ∧ t < 2147483648) (hc : ¬ (0 ≤ t ∧ t ≤ 99999)) : aE (d + 12) 67 [.ref x, .int (iI t)] (dkW h x W, n, w, g) = some (.inr "java/lang/IllegalArgumentException", (dkW h x W, n + 1, w + 6, g)) := by
  have c8 : 8 ≤ d + 11 := by omega
  simp (disch := omega) only [e67, r67_0, r67_1, r67_4, r67_7, s_isFarTick, c8, kl_n, kl_i, kl_r, kl_z, kl_l, kl_d, catS_0, catS_c, cat_i, cat_l, cat_d, cat_r, cat_n, kC_r, kC_x, Option.bind_some, Option.toList_some, Option.toList_none, List.cons_append, List.nil_append, gB0, gB1, gB2, gB3, gB4, rvB, nI_iI, i0, i1, l0_, wr_s, aup_s, and_true, true_and, and_self, eq_self, if_true, if_false, Nat.zero_le, Nat.reduceAdd, Nat.reduceLeDiff, gN_I, gN_L, gN_P, bI_0, bI_ok, z0, z1, Bool.true_eq, Bool.false_eq_true, not_true_eq_false, not_false_eq_true]
  rw [if_pos hc]
theorem s_tickOfBar {t : Nat} (hO : dkOk W) (ht : t ≤ 999) : aE (d + 12) 68 [.ref x, .int (iI t)] (dkW h x W, n, w, g) = some (.inl (some (.int (iI (bSt W.1.2.2.2.1.1 W.1.2.2.2.1.2.1 W.1.2.2.2.1.2.2.1 W.1.2.2.2.1.2.2.2 t)))), (dkW h x W, n, w, g)) := by
  have q1 : (0 : Int) ≤ t ∧ (t : Int) ≤ 999 := by omega
  simp (disch := omega) only [e68, r68_0, r68_1, r68_2, r68_5, r68_8, r68_11, r68_22, r68_23, r68_26, r68_29, r68_30, r68_33, s_isWithin, q1, s_startOfBar dk_mtI dk_13 hO.1.2.2.2.2.2.2.1 hO.1.2.2.2.2.2.2.2.1 (show t < 2147483648 by omega), dk_0, dk_1, dk_13, kl_n, kl_i, kl_r, kl_z, kl_l, kl_d, catS_0, catS_c, cat_i, cat_l, cat_d, cat_r, cat_n, kC_r, kC_x, Option.bind_some, Option.toList_some, Option.toList_none, List.cons_append, List.nil_append, gB0, gB1, gB2, gB3, gB4, rvB, nI_iI, i0, i1, l0_, wr_s, aup_s, and_true, true_and, and_self, eq_self, if_true, if_false, Nat.zero_le, Nat.reduceAdd, Nat.reduceLeDiff, gN_I, gN_L, gN_P, bI_0, bI_ok, z0, z1, Bool.true_eq, Bool.false_eq_true, not_true_eq_false, not_false_eq_true]
theorem s_tickOfBar_1 {t : Int} (b1 : -2147483648 ≤ t ∧ t < 2147483648) (hc : ¬ (0 ≤ t ∧ t ≤ 999)) : aE (d + 12) 68 [.ref x, .int (iI t)] (dkW h x W, n, w, g) = some (.inr "java/lang/IllegalArgumentException", (dkW h x W, n + 1, w + 6, g)) := by
  have c8 : 8 ≤ d + 11 := by omega
  simp (disch := omega) only [e68, r68_0, r68_1, r68_2, r68_5, r68_8, r68_11, s_isWithin, c8, kl_n, kl_i, kl_r, kl_z, kl_l, kl_d, catS_0, catS_c, cat_i, cat_l, cat_d, cat_r, cat_n, kC_r, kC_x, Option.bind_some, Option.toList_some, Option.toList_none, List.cons_append, List.nil_append, gB0, gB1, gB2, gB3, gB4, rvB, nI_iI, i0, i1, l0_, wr_s, aup_s, and_true, true_and, and_self, eq_self, if_true, if_false, Nat.zero_le, Nat.reduceAdd, Nat.reduceLeDiff, gN_I, gN_L, gN_P, bI_0, bI_ok, z0, z1, Bool.true_eq, Bool.false_eq_true, not_true_eq_false, not_false_eq_true]
  rw [if_pos hc]
/-! chords, clashes -/
theorem s_clashesD (hO : dkOk W) : aE (d + 12) 70 [.ref x] (dkW h x W, n, w, g) = some (.inl (some (.int (iI (sm (cl2 W.1.1.2 W.1.1.1) W.1.1.1)))), (dkW h x W, n, w, g)) := by
  simp only [e70, r70_0, r70_1, r70_4, r70_7, r70_10, dk_0, dk_1, dk_2, k_clashes hO.1.1 hO.1.2.1, kl_n, kl_i, kl_r, kl_z, kl_l, kl_d, catS_0, catS_c, cat_i, cat_l, cat_d, cat_r, cat_n, kC_r, kC_x, Option.bind_some, Option.toList_some, Option.toList_none, List.cons_append, List.nil_append, gB0, gB1, gB2, gB3, gB4, rvB, nI_iI, i0, i1, l0_, wr_s, aup_s, and_true, true_and, and_self, eq_self, if_true, if_false, Nat.zero_le, Nat.reduceAdd, Nat.reduceLeDiff, gN_I, gN_L, gN_P, bI_0, bI_ok, z0, z1, Bool.true_eq, Bool.false_eq_true, not_true_eq_false, not_false_eq_true]
end
