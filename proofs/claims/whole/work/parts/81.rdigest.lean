/-! ===== the reference's checksum ===== -/
section
variable {F : Nat → Int32} {v : Int32}
theorem n8_0 : sI (some (aI .int 8 F)) (iI 0) v = some (aI .int 8 (upd F 0 v)) := sI_I (j := 0) (by omega) (by omega) (by omega)
theorem n8_1 : sI (some (aI .int 8 F)) (iI 1) v = some (aI .int 8 (upd F 1 v)) := sI_I (j := 1) (by omega) (by omega) (by omega)
theorem n8_2 : sI (some (aI .int 8 F)) (iI 2) v = some (aI .int 8 (upd F 2 v)) := sI_I (j := 2) (by omega) (by omega) (by omega)
theorem n8_3 : sI (some (aI .int 8 F)) (iI 3) v = some (aI .int 8 (upd F 3 v)) := sI_I (j := 3) (by omega) (by omega) (by omega)
theorem n8_4 : sI (some (aI .int 8 F)) (iI 4) v = some (aI .int 8 (upd F 4 v)) := sI_I (j := 4) (by omega) (by omega) (by omega)
theorem n8_5 : sI (some (aI .int 8 F)) (iI 5) v = some (aI .int 8 (upd F 5 v)) := sI_I (j := 5) (by omega) (by omega) (by omega)
theorem n8_6 : sI (some (aI .int 8 F)) (iI 6) v = some (aI .int 8 (upd F 6 v)) := sI_I (j := 6) (by omega) (by omega) (by omega)
theorem n8_7 : sI (some (aI .int 8 F)) (iI 7) v = some (aI .int 8 (upd F 7 v)) := sI_I (j := 7) (by omega) (by omega) (by omega)
end
def n8 (T : Nat → Int32) : Nat → Int32 := upd (upd (upd (upd (upd (upd (upd (upd (fun _ => iI 0) 0 (T 0)) 1 (T 1)) 2 (T 2)) 3 (T 3)) 4 (T 4)) 5 (T 5)) 6 (T 6)) 7 (T 7)
def adK (T : Nat → Int32) : Nat → Int64 → Int64
  | 0, s => s
  | k + 1, s => adZ (adK T k s) (T k)
/-- the reference with its sum, its plays and rows -/
def dgM (M : Md) (p : Int32) (s : Int64) (Z : Nat → Nat → Int32) (C : Nat → Nat) : Md := ((M.1.1, M.1.2.1, M.1.2.2.1, M.1.2.2.2.1, M.1.2.2.2.2.1, p, s), M.2.1, M.2.2.1, M.2.2.2.1, M.2.2.2.2.1, M.2.2.2.2.2.1, M.2.2.2.2.2.2.1, Z, fun i => lI (C i))
def sM (M : Md) (s : Int64) : Md := ((M.1.1, M.1.2.1, M.1.2.2.1, M.1.2.2.2.1, M.1.2.2.2.2.1, M.1.2.2.2.2.2.1, s), M.2)
section
variable {d n w : Nat} {g : Nat × Nat} {h : aHf} {r : Nat × Nat × Nat × Nat} {y : Nat} {M : Md} {m : Nat} {F : Nat → Nat} {X : Nat → Int32} {T : Nat → Nat} {S D : Nat → Int} {lp : LPv}
theorem r_add {v : Int32} : aE (d + 1) 259 [.ref y, .int v] (mdW h y M, r) = some (.inl none, (mdW h y (sM M (adZ M.1.2.2.2.2.2.2 v)), r)) := by
  simp only [e259, r259_0, r259_1, r259_2, r259_5, r259_8, r259_9, r259_10, r259_11, r259_12, r259_15, md_0, mg14, ms14, md_ob, kl_n, kl_i, kl_r, kl_z, kl_l, kl_d, catS_0, catS_c, cat_i, cat_l, cat_d, cat_r, cat_n, kC_r, kC_x, Option.bind_some, Option.toList_some, Option.toList_none, List.cons_append, List.nil_append, gB0, gB1, gB2, gB3, gB4, rvB, nI_iI, i0, i1, l0_, wr_s, aup_s, and_true, true_and, and_self, eq_self, if_true, if_false, Nat.zero_le, Nat.reduceAdd, Nat.reduceLeDiff, gN_I, gN_L, gN_P, bI_0, bI_ok, z0, z1, Bool.true_eq, Bool.false_eq_true, not_true_eq_false, not_false_eq_true]
  rfl
theorem dn_36 {k : Nat} {s : Int64} {l3 l4 l5 : Option Value} (hA : M.2.1 = nB m F X) (hm : m ≤ 60) (hk : k < m) (hF : ∀ i, cOk (F i)) : ∀ z j : Nat, j + z = 5 → L (d + 5) 260 36 [some (.ref y), some (.int (iI k)), some (.int (iI j)), l3, l4, l5] [] (mdW h y (sM M (adF (F k) j s)), r) = L (d + 5) 260 57 [some (.ref y), some (.int (iI k)), some (.int (iI 5)), l3, l4, l5] [] (mdW h y (sM M (adF (F k) 5 s)), r) := by
  intro z
  induction z with
  | zero =>
    intro j hj
    obtain rfl : j = 5 := by omega
    rw [r260_36, show ((5 : Nat) : Int) = 5 from rfl]
    simp (disch := omega) only [r260_37, r260_38, iI_le, Int.le_refl, kl_n, kl_i, kl_r, kl_z, kl_l, kl_d, catS_0, catS_c, cat_i, cat_l, cat_d, cat_r, cat_n, kC_r, kC_x, Option.bind_some, Option.toList_some, Option.toList_none, List.cons_append, List.nil_append, gB0, gB1, gB2, gB3, gB4, rvB, nI_iI, i0, i1, l0_, wr_s, aup_s, and_true, true_and, and_self, eq_self, if_true, if_false, Nat.zero_le, Nat.reduceAdd, Nat.reduceLeDiff, gN_I, gN_L, gN_P, bI_0, bI_ok, z0, z1, Bool.true_eq, Bool.false_eq_true, not_true_eq_false, not_false_eq_true]
  | succ z ih =>
    intro j hj
    have c1 : ¬ (5 : Int) ≤ j := by omega
    have e1 : (j : Int) + 1 = ((j + 1 : Nat) : Int) := by omega
    have h9 := ih (j + 1) (by omega)
    have m0 := md_0 (h := h) (y := y) (M := sM M (adF (F k) j s))
    have cf := cFact_lt (hF k) j
    have at0 : aE (d + 5) 197 [.ref y, .int (iI k), .int (iI j)] (mdW h y (sM M (adF (F k) j s)), r) = some (.inl (some (.int (iI (cFact (F k) j : Nat)))), (mdW h y (sM M (adF (F k) j s)), r)) := r_at (d := d + 4) (M := sM M (adF (F k) j s)) (X := X) hA hm hk (by omega)
    have ad := r_add (d := d + 4) (h := h) (r := r) (y := y) (M := sM M (adF (F k) j s)) (v := iI (cFact (F k) j : Nat))
    have e2 : adZ (sM M (adF (F k) j s)).1.2.2.2.2.2.2 (iI (cFact (F k) j : Nat)) = adF (F k) (j + 1) s := adZ_L (by omega) (by omega)
    rw [e2] at ad
    rw [r260_36]
    simp (disch := omega) only [r260_37, r260_38, r260_41, r260_42, r260_43, r260_44, r260_45, r260_48, r260_51, r260_54, iI_le, c1, m0, at0, ad, iI_add, e1, kl_n, kl_i, kl_r, kl_z, kl_l, kl_d, catS_0, catS_c, cat_i, cat_l, cat_d, cat_r, cat_n, kC_r, kC_x, Option.bind_some, Option.toList_some, Option.toList_none, List.cons_append, List.nil_append, gB0, gB1, gB2, gB3, gB4, rvB, nI_iI, i0, i1, l0_, wr_s, aup_s, and_true, true_and, and_self, eq_self, if_true, if_false, Nat.zero_le, Nat.reduceAdd, Nat.reduceLeDiff, gN_I, gN_L, gN_P, bI_0, bI_ok, z0, z1, Bool.true_eq, Bool.false_eq_true, not_true_eq_false, not_false_eq_true]
    exact h9
theorem dn_24 {s : Int64} {l3 l4 l5 : Option Value} (hA : M.2.1 = nB m F X) (hm : m ≤ 60) (hF : ∀ i, cOk (F i)) : ∀ z k : Nat, k + z = m → ∀ l2, ∃ l2', L (d + 5) 260 24 [some (.ref y), some (.int (iI k)), l2, l3, l4, l5] [] (mdW h y (sM M (adN F k s)), r) = L (d + 5) 260 63 [some (.ref y), some (.int (iI m)), l2', l3, l4, l5] [] (mdW h y (sM M (adN F m s)), r) := by
  have g0 : gI (some (aI .int 385 (nB m F X))) (iI 0) = some (iI m) := gI_0 (by omega)
  intro z
  induction z with
  | zero =>
    intro k hk l2
    obtain rfl : k = m := by omega
    have m0 := md_0 (h := h) (y := y) (M := sM M (adN F k s))
    have m1 : mdW h y (sM M (adN F k s)) (y + 1) = some (aI .int 385 (nB k F X)) := by rw [md_1]; exact congrArg (fun z => some (aI .int 385 z)) hA
    refine ⟨l2, ?_⟩
    rw [r260_24]
    simp (disch := omega) only [r260_25, r260_26, r260_29, r260_30, r260_31, m0, m1, g0, iI_le, Int.le_refl, kl_n, kl_i, kl_r, kl_z, kl_l, kl_d, catS_0, catS_c, cat_i, cat_l, cat_d, cat_r, cat_n, kC_r, kC_x, Option.bind_some, Option.toList_some, Option.toList_none, List.cons_append, List.nil_append, gB0, gB1, gB2, gB3, gB4, rvB, nI_iI, i0, i1, l0_, wr_s, aup_s, and_true, true_and, and_self, eq_self, if_true, if_false, Nat.zero_le, Nat.reduceAdd, Nat.reduceLeDiff, gN_I, gN_L, gN_P, bI_0, bI_ok, z0, z1, Bool.true_eq, Bool.false_eq_true, not_true_eq_false, not_false_eq_true]
  | succ z ih =>
    intro k hk l2
    have m0 := md_0 (h := h) (y := y) (M := sM M (adN F k s))
    have m1 : mdW h y (sM M (adN F k s)) (y + 1) = some (aI .int 385 (nB m F X)) := by rw [md_1]; exact congrArg (fun z => some (aI .int 385 z)) hA
    have c1 : ¬ (m : Int) ≤ k := by omega
    have e1 : (k : Int) + 1 = ((k + 1 : Nat) : Int) := by omega
    obtain ⟨l2', h9⟩ := ih (k + 1) (by omega) (some (.int (iI 5)))
    have hi := dn_36 (d := d) (h := h) (r := r) (y := y) (M := M) (s := adN F k s) (l3 := l3) (l4 := l4) (l5 := l5) hA hm (show k < m by omega) hF 5 0 (by omega)
    rw [show ((0 : Nat) : Int) = 0 from rfl, show adF (F k) 0 (adN F k s) = adN F k s from rfl, show adF (F k) 5 (adN F k s) = adN F (k + 1) s from rfl] at hi
    refine ⟨l2', ?_⟩
    rw [← h9, r260_24]
    simp (disch := omega) only [r260_25, r260_26, r260_29, r260_30, r260_31, r260_34, r260_35, m0, m1, g0, iI_le, c1, hi, kl_n, kl_i, kl_r, kl_z, kl_l, kl_d, catS_0, catS_c, cat_i, cat_l, cat_d, cat_r, cat_n, kC_r, kC_x, Option.bind_some, Option.toList_some, Option.toList_none, List.cons_append, List.nil_append, gB0, gB1, gB2, gB3, gB4, rvB, nI_iI, i0, i1, l0_, wr_s, aup_s, and_true, true_and, and_self, eq_self, if_true, if_false, Nat.zero_le, Nat.reduceAdd, Nat.reduceLeDiff, gN_I, gN_L, gN_P, bI_0, bI_ok, z0, z1, Bool.true_eq, Bool.false_eq_true, not_true_eq_false, not_false_eq_true]
    simp (disch := omega) only [r260_57, r260_60, iI_add, e1, kl_n, kl_i, kl_r, kl_z, kl_l, kl_d, catS_0, catS_c, cat_i, cat_l, cat_d, cat_r, cat_n, kC_r, kC_x, Option.bind_some, Option.toList_some, Option.toList_none, List.cons_append, List.nil_append, gB0, gB1, gB2, gB3, gB4, rvB, nI_iI, i0, i1, l0_, wr_s, aup_s, and_true, true_and, and_self, eq_self, if_true, if_false, Nat.zero_le, Nat.reduceAdd, Nat.reduceLeDiff, gN_I, gN_L, gN_P, bI_0, bI_ok, z0, z1, Bool.true_eq, Bool.false_eq_true, not_true_eq_false, not_false_eq_true]
theorem dk_147 {A T : Nat → Int32} {s : Int64} (hy : y + 531 ≤ n) (hT : ∀ j, j < 8 → A j = T j) : ∀ z k : Nat, k + z = 8 → ∀ l5, ∃ l5', L (d + 5) 260 147 [some (.ref y), some (.ref n), some (.ref n), some (.int (iI 8)), some (.int (iI k)), l5] [] (mdW (aup h n (aI .int 8 A)) y (sM M (adK T k s)), r) = L (d + 5) 260 171 [some (.ref y), some (.ref n), some (.ref n), some (.int (iI 8)), some (.int (iI 8)), l5'] [] (mdW (aup h n (aI .int 8 A)) y (sM M (adK T 8 s)), r) := by
  intro z
  induction z with
  | zero =>
    intro k hk l5
    obtain rfl : k = 8 := by omega
    refine ⟨l5, ?_⟩
    rw [r260_147, show ((8 : Nat) : Int) = 8 from rfl]
    simp (disch := omega) only [r260_149, r260_150, iI_le, Int.le_refl, kl_n, kl_i, kl_r, kl_z, kl_l, kl_d, catS_0, catS_c, cat_i, cat_l, cat_d, cat_r, cat_n, kC_r, kC_x, Option.bind_some, Option.toList_some, Option.toList_none, List.cons_append, List.nil_append, gB0, gB1, gB2, gB3, gB4, rvB, nI_iI, i0, i1, l0_, wr_s, aup_s, and_true, true_and, and_self, eq_self, if_true, if_false, Nat.zero_le, Nat.reduceAdd, Nat.reduceLeDiff, gN_I, gN_L, gN_P, bI_0, bI_ok, z0, z1, Bool.true_eq, Bool.false_eq_true, not_true_eq_false, not_false_eq_true]
  | succ z ih =>
    intro k hk l5
    have c1 : ¬ (8 : Int) ≤ k := by omega
    have e1 : (k : Int) + 1 = ((k + 1 : Nat) : Int) := by omega
    obtain ⟨l5', h9⟩ := ih (k + 1) (by omega) (some (.int (A k)))
    refine ⟨l5', ?_⟩
    have m0 := md_0 (h := aup h n (aI .int 8 A)) (y := y) (M := sM M (adK T k s))
    have mn : mdW (aup h n (aI .int 8 A)) y (sM M (adK T k s)) n = some (aI .int 8 A) := by rw [md_out hy, aup_s]
    have gi : gI (some (aI .int 8 A)) (iI (k : Int)) = some (A k) := gI_N (by omega) (by omega)
    have ad := r_add (d := d + 4) (h := aup h n (aI .int 8 A)) (r := r) (y := y) (M := sM M (adK T k s)) (v := A k)
    have e2 : adZ (sM M (adK T k s)).1.2.2.2.2.2.2 (A k) = adK T (k + 1) s := by rw [hT k (by omega)]; rfl
    rw [e2] at ad
    rw [← h9, r260_147]
    simp (disch := omega) only [r260_149, r260_150, r260_153, r260_154, r260_156, r260_157, r260_159, r260_160, r260_162, r260_165, r260_168, iI_le, c1, mn, gi, m0, ad, iI_add, e1, kl_n, kl_i, kl_r, kl_z, kl_l, kl_d, catS_0, catS_c, cat_i, cat_l, cat_d, cat_r, cat_n, kC_r, kC_x, Option.bind_some, Option.toList_some, Option.toList_none, List.cons_append, List.nil_append, gB0, gB1, gB2, gB3, gB4, rvB, nI_iI, i0, i1, l0_, wr_s, aup_s, and_true, true_and, and_self, eq_self, if_true, if_false, Nat.zero_le, Nat.reduceAdd, Nat.reduceLeDiff, gN_I, gN_L, gN_P, bI_0, bI_ok, z0, z1, Bool.true_eq, Bool.false_eq_true, not_true_eq_false, not_false_eq_true]
    rfl

theorem de_191 {k N : Nat} {s : Int64} {p : Int32} {Z : Nat → Nat → Int32} {C G : Nat → Nat} {l1 l5 : Option Value} (hC : bd (C k)) (hN : k < 960) (hG : ∀ j, j ≤ 3 → rFact (C k) j = vFact (G k) j) (hV : vOk (G k)) : ∀ z j : Nat, j + z = 4 → L (d + 5) 260 191 [some (.ref y), l1, some (.int (iI N)), some (.int (iI k)), some (.int (iI j)), l5] [] (mdW h y (dgM M p (adG (G k) j s) Z C), r) = L (d + 5) 260 218 [some (.ref y), l1, some (.int (iI N)), some (.int (iI k)), some (.int (iI 4)), l5] [] (mdW h y (dgM M p (adG (G k) 4 s) Z C), r) := by
  intro z
  induction z with
  | zero =>
    intro j hj
    obtain rfl : j = 4 := by omega
    rw [r260_191, show ((4 : Nat) : Int) = 4 from rfl]
    simp (disch := omega) only [r260_193, r260_194, iI_le, Int.le_refl, kl_n, kl_i, kl_r, kl_z, kl_l, kl_d, catS_0, catS_c, cat_i, cat_l, cat_d, cat_r, cat_n, kC_r, kC_x, Option.bind_some, Option.toList_some, Option.toList_none, List.cons_append, List.nil_append, gB0, gB1, gB2, gB3, gB4, rvB, nI_iI, i0, i1, l0_, wr_s, aup_s, and_true, true_and, and_self, eq_self, if_true, if_false, Nat.zero_le, Nat.reduceAdd, Nat.reduceLeDiff, gN_I, gN_L, gN_P, bI_0, bI_ok, z0, z1, Bool.true_eq, Bool.false_eq_true, not_true_eq_false, not_false_eq_true]
  | succ z ih =>
    intro j hj
    have c1 : ¬ (4 : Int) ≤ j := by omega
    have e1 : (j : Int) + 1 = ((j + 1 : Nat) : Int) := by omega
    have h9 := ih (j + 1) (by omega)
    have m0 := md_0 (h := h) (y := y) (M := dgM M p (adG (G k) j s) Z C)
    have m5 : mdW h y (dgM M p (adG (G k) j s) Z C) (y + 530) = some (aL 960 (fun i => lI (C i))) := md_530
    have gl : gL (some (aL 960 (fun i => lI (C i)))) (iI (k : Int)) = some (lI (C k)) := by
      have z := lw_g (h := h) (p := 0) (N := 960) (j := k) (C := C) (by omega) (by omega)
      rw [lw_at] at z
      exact z
    have tl := r_told (d := d + 4) (H := (mdW h y (dgM M p (adG (G k) j s) Z C), r)) (e := C k) (w := j) hC (by omega)
    rw [hG j (by omega)] at tl
    have vf := vFact_lt hV j
    have ad := r_add (d := d + 4) (h := h) (r := r) (y := y) (M := dgM M p (adG (G k) j s) Z C) (v := iI (vFact (G k) j : Nat))
    have e2 : adZ (dgM M p (adG (G k) j s) Z C).1.2.2.2.2.2.2 (iI (vFact (G k) j : Nat)) = adG (G k) (j + 1) s := adZ_L (by omega) (by omega)
    rw [e2] at ad
    rw [r260_191]
    simp (disch := omega) only [r260_193, r260_194, r260_197, r260_198, r260_199, r260_202, r260_203, r260_204, r260_206, r260_209, r260_212, r260_215, iI_le, c1, m0, mg13, m5, gl, tl, ad, iI_add, e1, kl_n, kl_i, kl_r, kl_z, kl_l, kl_d, catS_0, catS_c, cat_i, cat_l, cat_d, cat_r, cat_n, kC_r, kC_x, Option.bind_some, Option.toList_some, Option.toList_none, List.cons_append, List.nil_append, gB0, gB1, gB2, gB3, gB4, rvB, nI_iI, i0, i1, l0_, wr_s, aup_s, and_true, true_and, and_self, eq_self, if_true, if_false, Nat.zero_le, Nat.reduceAdd, Nat.reduceLeDiff, gN_I, gN_L, gN_P, bI_0, bI_ok, z0, z1, Bool.true_eq, Bool.false_eq_true, not_true_eq_false, not_false_eq_true]
    exact h9
theorem de_183 {N : Nat} {s : Int64} {p : Int32} {Z : Nat → Nat → Int32} {C G : Nat → Nat} {l1 l5 : Option Value} (hC : ∀ i, bd (C i)) (hN : N ≤ 960) (hG : ∀ k, k < N → ∀ j, j ≤ 3 → rFact (C k) j = vFact (G k) j) (hV : ∀ i, vOk (G i)) : ∀ z k : Nat, k + z = N → ∀ l4, ∃ l4', L (d + 5) 260 183 [some (.ref y), l1, some (.int (iI N)), some (.int (iI k)), l4, l5] [] (mdW h y (dgM M p (adM G k s) Z C), r) = L (d + 5) 260 224 [some (.ref y), l1, some (.int (iI N)), some (.int (iI N)), l4', l5] [] (mdW h y (dgM M p (adM G N s) Z C), r) := by
  intro z
  induction z with
  | zero =>
    intro k hk l4
    obtain rfl : k = N := by omega
    refine ⟨l4, ?_⟩
    rw [r260_183]
    simp (disch := omega) only [r260_184, r260_185, iI_le, Int.le_refl, kl_n, kl_i, kl_r, kl_z, kl_l, kl_d, catS_0, catS_c, cat_i, cat_l, cat_d, cat_r, cat_n, kC_r, kC_x, Option.bind_some, Option.toList_some, Option.toList_none, List.cons_append, List.nil_append, gB0, gB1, gB2, gB3, gB4, rvB, nI_iI, i0, i1, l0_, wr_s, aup_s, and_true, true_and, and_self, eq_self, if_true, if_false, Nat.zero_le, Nat.reduceAdd, Nat.reduceLeDiff, gN_I, gN_L, gN_P, bI_0, bI_ok, z0, z1, Bool.true_eq, Bool.false_eq_true, not_true_eq_false, not_false_eq_true]
  | succ z ih =>
    intro k hk l4
    have c1 : ¬ (N : Int) ≤ k := by omega
    have e1 : (k : Int) + 1 = ((k + 1 : Nat) : Int) := by omega
    obtain ⟨l4', h9⟩ := ih (k + 1) (by omega) (some (.int (iI 4)))
    refine ⟨l4', ?_⟩
    have hi := de_191 (d := d) (h := h) (r := r) (y := y) (M := M) (N := N) (p := p) (Z := Z) (C := C) (G := G) (l1 := l1) (l5 := l5) (s := adM G k s) (hC k) (by omega) (hG k (by omega)) (hV k) 4 0 (by omega)
    rw [show ((0 : Nat) : Int) = 0 from rfl, show adG (G k) 0 (adM G k s) = adM G k s from rfl, show adG (G k) 4 (adM G k s) = adM G (k + 1) s from rfl] at hi
    rw [← h9, r260_183]
    simp (disch := omega) only [r260_184, r260_185, r260_188, r260_189, iI_le, c1, hi, kl_n, kl_i, kl_r, kl_z, kl_l, kl_d, catS_0, catS_c, cat_i, cat_l, cat_d, cat_r, cat_n, kC_r, kC_x, Option.bind_some, Option.toList_some, Option.toList_none, List.cons_append, List.nil_append, gB0, gB1, gB2, gB3, gB4, rvB, nI_iI, i0, i1, l0_, wr_s, aup_s, and_true, true_and, and_self, eq_self, if_true, if_false, Nat.zero_le, Nat.reduceAdd, Nat.reduceLeDiff, gN_I, gN_L, gN_P, bI_0, bI_ok, z0, z1, Bool.true_eq, Bool.false_eq_true, not_true_eq_false, not_false_eq_true]
    simp (disch := omega) only [r260_218, r260_221, iI_add, e1, kl_n, kl_i, kl_r, kl_z, kl_l, kl_d, catS_0, catS_c, cat_i, cat_l, cat_d, cat_r, cat_n, kC_r, kC_x, Option.bind_some, Option.toList_some, Option.toList_none, List.cons_append, List.nil_append, gB0, gB1, gB2, gB3, gB4, rvB, nI_iI, i0, i1, l0_, wr_s, aup_s, and_true, true_and, and_self, eq_self, if_true, if_false, Nat.zero_le, Nat.reduceAdd, Nat.reduceLeDiff, gN_I, gN_L, gN_P, bI_0, bI_ok, z0, z1, Bool.true_eq, Bool.false_eq_true, not_true_eq_false, not_false_eq_true]
theorem dt_242 {C : Nat → Nat} {x2 : Int32} {l1 l4 l5 : Option Value} {f : Nat → Nat} (hR : rdH M m F X T S D lp) (hf : ∀ t, t < 6 → 2 * (pT m F S D lp t).1 = f t) {adf : Nat → Int64} (ha : ∀ t, adf (t + 1) = adZ (adf t) (iI (f t))) : ∀ z t : Nat, t + z = 6 → ∀ p Z, ∃ p' Z', L (d + 5) 260 242 [some (.ref y), l1, some (.int x2), some (.int (iI t)), l4, l5] [] (mdW h y (dgM M p (adf t) Z C), r) = L (d + 5) 260 263 [some (.ref y), l1, some (.int x2), some (.int (iI 6)), l4, l5] [] (mdW h y (dgM M p' (adf 6) Z' C), r) := by
  intro z
  induction z with
  | zero =>
    intro t ht p Z
    obtain rfl : t = 6 := by omega
    refine ⟨p, Z, ?_⟩
    rw [r260_242, show ((6 : Nat) : Int) = 6 from rfl]
    simp (disch := omega) only [r260_243, r260_245, iI_le, Int.le_refl, kl_n, kl_i, kl_r, kl_z, kl_l, kl_d, catS_0, catS_c, cat_i, cat_l, cat_d, cat_r, cat_n, kC_r, kC_x, Option.bind_some, Option.toList_some, Option.toList_none, List.cons_append, List.nil_append, gB0, gB1, gB2, gB3, gB4, rvB, nI_iI, i0, i1, l0_, wr_s, aup_s, and_true, true_and, and_self, eq_self, if_true, if_false, Nat.zero_le, Nat.reduceAdd, Nat.reduceLeDiff, gN_I, gN_L, gN_P, bI_0, bI_ok, z0, z1, Bool.true_eq, Bool.false_eq_true, not_true_eq_false, not_false_eq_true]
  | succ z ih =>
    intro t ht p Z
    have c1 : ¬ (6 : Int) ≤ t := by omega
    have e1 : (t : Int) + 1 = ((t + 1 : Nat) : Int) := by omega
    obtain ⟨Z1, hZ1, p1⟩ := r_eventsOf (d := d + 1) (h := h) (r := r) (y := y) (M := dgM M p (adf t) Z C) (X := X) (m := m) (F := F) (T := T) (S := S) (D := D) (lp := lp) (t := t) (by omega) hR
    obtain ⟨p', Z', h9⟩ := ih (t + 1) (by omega) (iI (pT m F S D lp t).1) Z1
    refine ⟨p', Z', ?_⟩
    have m0 := md_0 (h := h) (y := y) (M := dgM M p (adf t) Z C)
    have m1 := md_0 (h := h) (y := y) (M := plM (dgM M p (adf t) Z C) (pT m F S D lp t).1 Z1)
    have ad := r_add (d := d + 4) (h := h) (r := r) (y := y) (M := plM (dgM M p (adf t) Z C) (pT m F S D lp t).1 Z1) (v := iI (2 * (pT m F S D lp t).1 : Nat))
    have e2 : adZ (plM (dgM M p (adf t) Z C) (pT m F S D lp t).1 Z1).1.2.2.2.2.2.2 (iI (2 * (pT m F S D lp t).1 : Nat)) = adf (t + 1) := by rw [ha, hf t (by omega)]; rfl
    rw [e2] at ad
    rw [← h9, r260_242]
    simp (disch := omega) only [r260_243, r260_245, r260_248, r260_249, r260_250, r260_251, r260_254, r260_257, r260_260, iI_le, c1, m0, p1, m1, ad, iI_add, e1, kl_n, kl_i, kl_r, kl_z, kl_l, kl_d, catS_0, catS_c, cat_i, cat_l, cat_d, cat_r, cat_n, kC_r, kC_x, Option.bind_some, Option.toList_some, Option.toList_none, List.cons_append, List.nil_append, gB0, gB1, gB2, gB3, gB4, rvB, nI_iI, i0, i1, l0_, wr_s, aup_s, and_true, true_and, and_self, eq_self, if_true, if_false, Nat.zero_le, Nat.reduceAdd, Nat.reduceLeDiff, gN_I, gN_L, gN_P, bI_0, bI_ok, z0, z1, Bool.true_eq, Bool.false_eq_true, not_true_eq_false, not_false_eq_true]
    rfl

theorem td_63 {v2 v3 v4 v5 v6 v7 : Int32} {l1' : Int32} {l2 l5 : Option Value} (hy : y + 531 ≤ n)
    (q2 : ∀ h r, aE (d + 5) 224 [.ref y, .int (iI 9599)] (mdW h y M, r) = some (.inl (some (.int v2)), (mdW h y M, r)))
    (q3 : ∀ h r, aE (d + 5) 226 [.ref y, .int (iI 1000000)] (mdW h y M, r) = some (.inl (some (.int v3)), (mdW h y M, r)))
    (q4 : ∀ h r, aE (d + 5) 232 [.ref y, .int (iI 9599)] (mdW h y M, r) = some (.inl (some (.int v4)), (mdW h y M, r)))
    (q5 : ∀ h r, aE (d + 5) 234 [.ref y, .int (iI 1000)] (mdW h y M, r) = some (.inl (some (.int v5)), (mdW h y M, r)))
    (q6 : ∀ h r, aE (d + 5) 231 [.ref y, .int (iI 7)] (mdW h y M, r) = some (.inl (some (.int v6)), (mdW h y M, r)))
    (q7 : ∀ h r, aE (d + 5) 243 [.ref y] (mdW h y M, r) = some (.inl (some (.int v7)), (mdW h y M, r))) :
    ∃ l5' V, L (d + 5) 260 63 [some (.ref y), some (.int l1'), l2, none, none, l5] [] (mdW h y M, n, w, g) = L (d + 5) 260 171 [some (.ref y), some (.ref n), some (.ref n), some (.int (iI 8)), some (.int (iI 8)), l5'] [] (mdW (aup h n V) y (sM M (adZ (adZ (adZ (adZ (adZ (adZ (adZ (adZ M.1.2.2.2.2.2.2 M.1.2.1) M.1.2.2.1) v2) v3) v4) v5) v6) v7)), n + 1, w + 8, g) := by
  have e1 : (iI 8).toNatClampNeg = 8 := by decide
  have e2 : ¬ (iI 8 < iI 0 ∨ 60000000 < 8) := by decide
  have mn8 : ∀ A A', aup (mdW (aup h n A) y M) n A' = mdW (aup h n A') y M := fun A A' => by rw [md_n hy, aup_2]
  have rn8 : ∀ A, mdW (aup h n A) y M n = some A := fun A => by rw [md_out hy, aup_s]
  have m0 : ∀ A, mdW (aup h n A) y M y = _ := fun A => md_0 (h := aup h n A) (y := y) (M := M)
  obtain ⟨l5', k⟩ := dk_147 (d := d) (n := n) (h := h) (r := (n + 1, w + 8, g)) (y := y) (M := M) (s := M.1.2.2.2.2.2.2) (A := n8 (fun j => if j = 0 then M.1.2.1 else if j = 1 then M.1.2.2.1 else if j = 2 then v2 else if j = 3 then v3 else if j = 4 then v4 else if j = 5 then v5 else if j = 6 then v6 else v7)) (T := fun j => if j = 0 then M.1.2.1 else if j = 1 then M.1.2.2.1 else if j = 2 then v2 else if j = 3 then v3 else if j = 4 then v4 else if j = 5 then v5 else if j = 6 then v6 else v7) hy (fun j hj => by
    obtain rfl | rfl | rfl | rfl | rfl | rfl | rfl | rfl : j = 0 ∨ j = 1 ∨ j = 2 ∨ j = 3 ∨ j = 4 ∨ j = 5 ∨ j = 6 ∨ j = 7 := by omega
    all_goals rfl) 8 0 (by omega) l5
  rw [show ((0 : Nat) : Int) = 0 from rfl] at k
  refine ⟨l5', (aI .int 8 (n8 (fun j => if j = 0 then M.1.2.1 else if j = 1 then M.1.2.2.1 else if j = 2 then v2 else if j = 3 then v3 else if j = 4 then v4 else if j = 5 then v5 else if j = 6 then v6 else v7))), ?_⟩
  change _ = L (d + 5) 260 171 _ [] (mdW (aup h n (aI .int 8 (n8 (fun j => if j = 0 then M.1.2.1 else if j = 1 then M.1.2.2.1 else if j = 2 then v2 else if j = 3 then v3 else if j = 4 then v4 else if j = 5 then v5 else if j = 6 then v6 else v7)))) y (sM M (adZ (adZ (adZ (adZ (adZ (adZ (adZ (adZ M.1.2.2.2.2.2.2 M.1.2.1) M.1.2.2.1) v2) v3) v4) v5) v6) v7)), _) at k
  rw [← k]
  simp (disch := omega) only [r260_63, r260_65, e1, e2, kl_n, kl_i, kl_r, kl_z, kl_l, kl_d, catS_0, catS_c, cat_i, cat_l, cat_d, cat_r, cat_n, kC_r, kC_x, Option.bind_some, Option.toList_some, Option.toList_none, List.cons_append, List.nil_append, gB0, gB1, gB2, gB3, gB4, rvB, nI_iI, i0, i1, l0_, wr_s, aup_s, and_true, true_and, and_self, eq_self, if_true, if_false, Nat.zero_le, Nat.reduceAdd, Nat.reduceLeDiff, gN_I, gN_L, gN_P, bI_0, bI_ok, z0, z1, Bool.true_eq, Bool.false_eq_true, not_true_eq_false, not_false_eq_true]
  rw [md_n hy]
  simp (disch := omega) only [r260_67i, r260_67, r260_68, r260_69, r260_70, r260_73, r260_74i, r260_74, r260_75, r260_76, r260_77, r260_80, r260_81i, r260_81, r260_82, r260_83, r260_84, r260_87, r260_90, m0, mg5, mg6, rn8, n8_0, n8_1, n8_2, mn8, q2, kl_n, kl_i, kl_r, kl_z, kl_l, kl_d, catS_0, catS_c, cat_i, cat_l, cat_d, cat_r, cat_n, kC_r, kC_x, Option.bind_some, Option.toList_some, Option.toList_none, List.cons_append, List.nil_append, gB0, gB1, gB2, gB3, gB4, rvB, nI_iI, i0, i1, l0_, wr_s, aup_s, and_true, true_and, and_self, eq_self, if_true, if_false, Nat.zero_le, Nat.reduceAdd, Nat.reduceLeDiff, gN_I, gN_L, gN_P, bI_0, bI_ok, z0, z1, Bool.true_eq, Bool.false_eq_true, not_true_eq_false, not_false_eq_true]
  simp (disch := omega) only [r260_91i, r260_91, r260_92, r260_93, r260_94, r260_96, r260_99, r260_100i, r260_100, r260_101, r260_102, r260_103, r260_106, r260_109, r260_110i, r260_110, r260_111, r260_112, r260_113, r260_116, r260_119, m0, rn8, n8_3, n8_4, n8_5, mn8, q3, q4, q5, kl_n, kl_i, kl_r, kl_z, kl_l, kl_d, catS_0, catS_c, cat_i, cat_l, cat_d, cat_r, cat_n, kC_r, kC_x, Option.bind_some, Option.toList_some, Option.toList_none, List.cons_append, List.nil_append, gB0, gB1, gB2, gB3, gB4, rvB, nI_iI, i0, i1, l0_, wr_s, aup_s, and_true, true_and, and_self, eq_self, if_true, if_false, Nat.zero_le, Nat.reduceAdd, Nat.reduceLeDiff, gN_I, gN_L, gN_P, bI_0, bI_ok, z0, z1, Bool.true_eq, Bool.false_eq_true, not_true_eq_false, not_false_eq_true]
  simp (disch := omega) only [r260_120i, r260_120, r260_121, r260_123, r260_124, r260_126, r260_129, r260_130i, r260_130, r260_131, r260_133, r260_134, r260_137, r260_138, r260_139, r260_140, r260_141, r260_142, r260_143, r260_144, r260_145, m0, rn8, n8_6, n8_7, mn8, q6, q7, kl_n, kl_i, kl_r, kl_z, kl_l, kl_d, catS_0, catS_c, cat_i, cat_l, cat_d, cat_r, cat_n, kC_r, kC_x, Option.bind_some, Option.toList_some, Option.toList_none, List.cons_append, List.nil_append, gB0, gB1, gB2, gB3, gB4, rvB, nI_iI, i0, i1, l0_, wr_s, aup_s, and_true, true_and, and_self, eq_self, if_true, if_false, Nat.zero_le, Nat.reduceAdd, Nat.reduceLeDiff, gN_I, gN_L, gN_P, bI_0, bI_ok, z0, z1, Bool.true_eq, Bool.false_eq_true, not_true_eq_false, not_false_eq_true]
  rfl
end
def adTf (f : Nat → Nat) : Nat → Int64 → Int64
  | 0, s => s
  | t + 1, s => adZ (adTf f t s) (iI (f t))
section
variable {d n w : Nat} {g : Nat × Nat} {h : aHf} {r : Nat × Nat × Nat × Nat} {y : Nat} {M : Md} {A : Nat → Nat} {m : Nat} {F : Nat → Nat} {X : Nat → Int32} {T : Nat → Nat} {S D : Nat → Int} {lp : LPv}
theorem r_digest {n1 n2 : Nat} {P1 V1 B1 P2 Q2 B2 G f : Nat → Nat} (hd : 80 ≤ d) (hy : y + 531 ≤ n) (hR : rdH M m F X T S D lp) (hA : M.2.2.2.2.2.2.2.2 = fun i => lI (A i)) (hB : ∀ i, bd (A i))
    (hSp : spA M.2.1 n1 P1 V1) (hM1 : mkOk n1 P1 V1 B1) (hV1 : ∀ i, i < n1 → 0 < V1 i) (hT1 : ∀ t, t < 131072 → sm (tmT P1 V1 n1 t) n1 < 2147483648)
    (hMt : mtA M.2.1 n2 P2 Q2 B2) (hM2 : mkOk n2 P2 Q2 B2) (hB2 : mtOk n2 Q2 B2) (hQ2 : ∀ i, Q2 i ≤ 16) (hV : ntOk F m)
    (hV4 : ∀ i, vOk (G i)) (hGs : sor G 0 (2 * (pA m F T S D lp).1)) (hG : ∀ A C, prm 0 (2 * (pA m F T S D lp).1) (rwE (pA m F T S D lp) (pA m F T S D lp).1 A) C → sor C 0 (2 * (pA m F T S D lp).1) → ∀ j, j < 2 * (pA m F T S D lp).1 → C j = rE (G j)) (hf : ∀ t, t < 6 → 2 * (pT m F S D lp t).1 = f t) :
    ∃ p s Z C n' w', (∀ i, bd (C i)) ∧ (n ≤ n' ∧ n' ≤ n + 8) ∧ w' ≤ w + 4000 ∧ aE (d + 6) 260 [.ref y] (mdW h y M, n, w, g) = some (.inl (some (.long
      (adZ (adTf f 6 (adE G (2 * (pA m F T S D lp).1) (adZ (adZ (adZ (adZ (adZ (adZ (adZ (adZ (adN F m (adL (lI 2671) m)) M.1.2.1) M.1.2.2.1) (iI (sm (tmT P1 V1 n1 9599) n1))) (iI (tkA (fun t => sm (tmT P1 V1 n1 t) n1) 1000000 17 0))) (iI (bAt n2 P2 Q2 B2 9599))) (iI (btAt n2 P2 Q2 B2 1000))) (iI (bSt n2 P2 Q2 B2 7))) (iI (sm (cl2 F m) m))))) (iI (fsR (ofN (-1) 0 9600 F m) 8).1)))), (mdW h y (dgM (rfM 0 M) p s Z C), n', w', g)) := by
  obtain ⟨k1, k2, k3, k4, k5, k6, k7, k8, k9, k10, k11, k12, k13⟩ := id hR
  obtain ⟨b1, b2⟩ := pA_n hR
  have g0 : gI (some (aI .int 385 (nB m F X))) (iI 0) = some (iI m) := gI_0 (by omega)
  -- first sums
  have s0 : adZ (lI 2671) (iI m) = adL (lI 2671) m := adZ_L (by omega) (by omega)
  obtain ⟨l2', d1⟩ := dn_24 (d := d) (h := h) (r := (n, w, g)) (y := y) (M := rfM 0 M) (s := adL (lI 2671) m) (l3 := none) (l4 := none) (l5 := none) k1 k2 k3 m 0 (by omega) none
  rw [show ((0 : Nat) : Int) = 0 from rfl, show adN F 0 (adL (lI 2671) m) = adL (lI 2671) m from rfl] at d1
  obtain ⟨l5', V, d2⟩ := td_63 (d := d) (n := n) (w := w) (g := g) (h := h) (y := y) (M := sM (rfM 0 M) (adN F m (adL (lI 2671) m))) (l1' := iI m) (l2 := l2') (l5 := none) (v2 := iI (sm (tmT P1 V1 n1 9599) n1)) (v3 := iI (tkA (fun t => sm (tmT P1 V1 n1 t) n1) 1000000 17 0)) (v4 := iI (bAt n2 P2 Q2 B2 9599)) (v5 := iI (btAt n2 P2 Q2 B2 1000)) (v6 := iI (bSt n2 P2 Q2 B2 7)) (v7 := iI (sm (cl2 F m) m)) hy
    (fun h r => r_timeNow (d := d + 3) (M := sM (rfM 0 M) _) (t := 9599) hSp hM1 hV1 (by omega))
    (fun h r => by
      have z := r_tickNow (d := d + 2) (h := h) (r := r) (y := y) (M := sM (rfM 0 M) (adN F m (adL (lI 2671) m))) (v := 1000000) hSp hM1 hV1 (by omega) hT1
      rw [← tk_AB] at z
      exact z)
    (fun h r => r_bar (d := d + 1) (M := sM (rfM 0 M) _) (t := 9599) hMt hM2 hB2 hQ2 (by omega))
    (fun h r => r_beat (d := d) (M := sM (rfM 0 M) _) (t := 1000) hMt hM2 hB2 hQ2 (by omega))
    (fun h r => by
      have z := r_tickOfBarNow (d := d + 1) (h := h) (r := r) (y := y) (M := sM (rfM 0 M) (adN F m (adL (lI 2671) m))) (v := 7) hMt hM2 hB2 (by omega)
      rw [← bst_S hM2] at z
      exact z)
    (fun h r => r_clashesNow (d := d + 2) (M := sM (rfM 0 M) _) (X := X) k1 k2 k3)
  obtain ⟨H, hH⟩ : ∃ H, H = aup h n V := ⟨_, rfl⟩
  rw [← hH] at d2
  change _ = L (d + 5) 260 171 _ [] (mdW H y (sM (rfM 0 M) (adZ (adZ (adZ (adZ (adZ (adZ (adZ (adZ (adN F m (adL (lI 2671) m)) M.1.2.1) M.1.2.2.1) (iI (sm (tmT P1 V1 n1 9599) n1))) (iI (tkA (fun t => sm (tmT P1 V1 n1 t) n1) 1000000 17 0))) (iI (bAt n2 P2 Q2 B2 9599))) (iI (btAt n2 P2 Q2 B2 1000))) (iI (bSt n2 P2 Q2 B2 7))) (iI (sm (cl2 F m) m)))), _) at d2
  generalize adZ (adZ (adZ (adZ (adZ (adZ (adZ (adZ (adN F m (adL (lI 2671) m)) M.1.2.1) M.1.2.2.1) (iI (sm (tmT P1 V1 n1 9599) n1))) (iI (tkA (fun t => sm (tmT P1 V1 n1 t) n1) 1000000 17 0))) (iI (bAt n2 P2 Q2 B2 9599))) (iI (btAt n2 P2 Q2 B2 1000))) (iI (bSt n2 P2 Q2 B2 7))) (iI (sm (cl2 F m) m)) = s1 at d2 ⊢
  -- the events
  obtain ⟨Z1, n1', w1', C1, c1, c2, c3, c4, c5, p1⟩ := r_eventsNow (d := d + 1) (n := n + 1) (w := w + 8) (g := g) (h := H) (y := y) (M := sM (rfM 0 M) s1) (A := A) (X := X) (m := m) (F := F) (T := T) (S := S) (D := D) (lp := lp) (by omega) (by omega) hR hA hB
  have c6 : ∀ i, bd (C1 i) := prm_bd c4 (rwE_bd b2 hB _ (Nat.le_refl _))
  have e1 := hG A C1 c4 c5
  obtain ⟨Z2, n2', w2', C2, f1, f2, f3, f4, f5, f6, p2⟩ := r_mostNow (d := d) (n := n1') (w := w1') (g := g) (h := H) (y := y) (M := dgM (rfM 0 M) (iI (pA m F T S D lp).1) (adM G (2 * (pA m F T S D lp).1) (adZ s1 (iI (2 * (pA m F T S D lp).1 : Nat)))) Z1 C1) (A := C1) (X := X) (m := m) (F := F) (T := T) (S := S) (D := D) (lp := lp) hd (by omega) hR rfl c6
  have e2 := hG C1 C2 f4 f5
  rw [gt_rE e2 (2 * (pA m F T S D lp).1) (Nat.le_refl _)] at p2
  obtain ⟨Z3, n3', w3', C3, q1, q2, q3, q4, q5, q6, p3⟩ := r_playedToNow (d := d) (n := n2') (w := w2') (g := g) (h := H) (y := y) (M := dgM (rfM 0 M) (iI (pA m F T S D lp).1) (adZ (adM G (2 * (pA m F T S D lp).1) (adZ s1 (iI (2 * (pA m F T S D lp).1 : Nat)))) (iI (gtI G (2 * (pA m F T S D lp).1)))) Z2 C2) (A := C2) (X := X) (m := m) (F := F) (T := T) (S := S) (D := D) (lp := lp) hd (by omega) hR rfl f6
  have e3 := hG C2 C3 q4 q5
  rw [(la_rE e3 hGs (fun v => rfl)).2] at p3
  obtain ⟨l4', d3⟩ := de_183 (d := d) (h := H) (r := (n1', w1', g)) (y := y) (M := rfM 0 M) (N := 2 * (pA m F T S D lp).1) (s := adZ s1 (iI (2 * (pA m F T S D lp).1 : Nat))) (p := iI (pA m F T S D lp).1) (Z := Z1) (C := C1) (G := G) (l1 := some (.ref n)) (l5 := l5') c6 (by omega) (fun k hk j hj => by rw [e1 k hk]; exact rE_f hj) hV4 (2 * (pA m F T S D lp).1) 0 (by omega) (some (.int (iI 8)))
  rw [show ((0 : Nat) : Int) = 0 from rfl, show adM G 0 (adZ s1 (iI (2 * (pA m F T S D lp).1 : Nat))) = adZ s1 (iI (2 * (pA m F T S D lp).1 : Nat)) from rfl] at d3
  obtain ⟨p', Z4, d4⟩ := dt_242 (d := d) (h := H) (r := (n3', w3', g)) (y := y) (M := rfM 0 M) (X := X) (m := m) (F := F) (T := T) (S := S) (D := D) (lp := lp) (C := C3) (l1 := some (.ref n)) (x2 := iI (2 * (pA m F T S D lp).1 : Nat)) (l4 := l4') (l5 := l5') (f := f) hR hf (adf := fun t => adTf f t (adE G (2 * (pA m F T S D lp).1) s1)) (fun t => rfl) 6 0 (by omega) (iI (pA m F T S D lp).1) Z3
  rw [show ((0 : Nat) : Int) = 0 from rfl] at d4
  have bn := r_bestNow (d := d + 1) (n := n3') (w := w3') (g := g) (h := H) (y := y) (M := dgM (rfM 0 M) p' (adTf f 6 (adE G (2 * (pA m F T S D lp).1) s1)) Z4 C3) (F := F) (X := X) (t := -1) (v := 0) (u := 9600) (by omega) k1 k2 k3 hV (by unfold rgOk; omega)
  refine ⟨p', adZ (adTf f 6 (adE G (2 * (pA m F T S D lp).1) s1)) (iI (fsR (ofN (-1) 0 9600 F m) 8).1), Z4, C3, n3' + 1, w3' + 8, q6, by omega, by omega, ?_⟩
  have z0 : mdW h y ((iI 0, M.1.2), M.2) = mdW h y (rfM 0 M) := rfl
  have m0 := md_0 (h := h) (y := y) (M := rfM 0 M)
  have m1 := md_0 (h := h) (y := y) (M := sM (rfM 0 M) (lI 2671))
  have m2 : mdW h y (sM (rfM 0 M) (lI 2671)) (y + 1) = some (aI .int 385 (nB m F X)) := by rw [md_1]; exact congrArg (fun z => some (aI .int 385 z)) k1
  have ad1 := r_add (d := d + 4) (h := h) (r := (n, w, g)) (y := y) (M := sM (rfM 0 M) (lI 2671)) (v := iI m)
  rw [show adZ (sM (rfM 0 M) (lI 2671)).1.2.2.2.2.2.2 (iI m) = adL (lI 2671) m from s0] at ad1
  have st1 : L (d + 5) 260 0 [some (.ref y), none, none, none, none, none] [] (mdW h y M, n, w, g) = L (d + 5) 260 12 [some (.ref y), none, none, none, none, none] [] (mdW h y (sM (rfM 0 M) (lI 2671)), n, w, g) := by
    simp (disch := omega) only [r260_0, r260_1, r260_2, r260_5, r260_6, r260_9, md_0, sB0i, md_th, z0, ms14, md_ob, kl_n, kl_i, kl_r, kl_z, kl_l, kl_d, catS_0, catS_c, cat_i, cat_l, cat_d, cat_r, cat_n, kC_r, kC_x, Option.bind_some, Option.toList_some, Option.toList_none, List.cons_append, List.nil_append, gB0, gB1, gB2, gB3, gB4, rvB, nI_iI, i0, i1, l0_, wr_s, aup_s, and_true, true_and, and_self, eq_self, if_true, if_false, Nat.zero_le, Nat.reduceAdd, Nat.reduceLeDiff, gN_I, gN_L, gN_P, bI_0, bI_ok, z0, z1, Bool.true_eq, Bool.false_eq_true, not_true_eq_false, not_false_eq_true]
    rfl
  have st2 : L (d + 5) 260 12 [some (.ref y), none, none, none, none, none] [] (mdW h y (sM (rfM 0 M) (lI 2671)), n, w, g) = L (d + 5) 260 24 [some (.ref y), some (.int (iI 0)), none, none, none, none] [] (mdW h y (sM (rfM 0 M) (adL (lI 2671) m)), n, w, g) := by
    simp (disch := omega) only [r260_12, r260_13, r260_14, r260_17, r260_18, r260_19, r260_22, r260_23, m1, gB1, m2, g0, ad1, kl_n, kl_i, kl_r, kl_z, kl_l, kl_d, catS_0, catS_c, cat_i, cat_l, cat_d, cat_r, cat_n, kC_r, kC_x, Option.bind_some, Option.toList_some, Option.toList_none, List.cons_append, List.nil_append, gB0, gB1, gB2, gB3, gB4, rvB, nI_iI, i0, i1, l0_, wr_s, aup_s, and_true, true_and, and_self, eq_self, if_true, if_false, Nat.zero_le, Nat.reduceAdd, Nat.reduceLeDiff, gN_I, gN_L, gN_P, bI_0, bI_ok, z0, z1, Bool.true_eq, Bool.false_eq_true, not_true_eq_false, not_false_eq_true]
    rfl
  have m3 := md_0 (h := H) (y := y) (M := sM (rfM 0 M) s1)
  have m4 := md_0 (h := H) (y := y) (M := roM (plM (sM (rfM 0 M) s1) (pA m F T S D lp).1 Z1) C1)
  have ad2 := r_add (d := d + 4) (h := H) (r := (n1', w1', g)) (y := y) (M := roM (plM (sM (rfM 0 M) s1) (pA m F T S D lp).1 Z1) C1) (v := iI (2 * (pA m F T S D lp).1 : Nat))
  have st3 : L (d + 5) 260 171 [some (.ref y), some (.ref n), some (.ref n), some (.int (iI 8)), some (.int (iI 8)), l5'] [] (mdW H y (sM (rfM 0 M) s1), n + 1, w + 8, g) = L (d + 5) 260 183 [some (.ref y), some (.ref n), some (.int (iI (2 * (pA m F T S D lp).1 : Nat))), some (.int (iI 0)), some (.int (iI 8)), l5'] [] (mdW H y (dgM (rfM 0 M) (iI (pA m F T S D lp).1) (adZ s1 (iI (2 * (pA m F T S D lp).1 : Nat))) Z1 C1), n1', w1', g) := by
    simp (disch := omega) only [r260_171, r260_172, r260_175, r260_176, r260_177, r260_178, r260_181, r260_182, m3, p1, m4, ad2, kl_n, kl_i, kl_r, kl_z, kl_l, kl_d, catS_0, catS_c, cat_i, cat_l, cat_d, cat_r, cat_n, kC_r, kC_x, Option.bind_some, Option.toList_some, Option.toList_none, List.cons_append, List.nil_append, gB0, gB1, gB2, gB3, gB4, rvB, nI_iI, i0, i1, l0_, wr_s, aup_s, and_true, true_and, and_self, eq_self, if_true, if_false, Nat.zero_le, Nat.reduceAdd, Nat.reduceLeDiff, gN_I, gN_L, gN_P, bI_0, bI_ok, z0, z1, Bool.true_eq, Bool.false_eq_true, not_true_eq_false, not_false_eq_true]
    rfl
  have m5 := md_0 (h := H) (y := y) (M := dgM (rfM 0 M) (iI (pA m F T S D lp).1) (adM G (2 * (pA m F T S D lp).1) (adZ s1 (iI (2 * (pA m F T S D lp).1 : Nat)))) Z1 C1)
  have m6 := md_0 (h := H) (y := y) (M := roM (plM (dgM (rfM 0 M) (iI (pA m F T S D lp).1) (adM G (2 * (pA m F T S D lp).1) (adZ s1 (iI (2 * (pA m F T S D lp).1 : Nat)))) Z1 C1) (pA m F T S D lp).1 Z2) C2)
  have ad3 := r_add (d := d + 4) (h := H) (r := (n2', w2', g)) (y := y) (M := roM (plM (dgM (rfM 0 M) (iI (pA m F T S D lp).1) (adM G (2 * (pA m F T S D lp).1) (adZ s1 (iI (2 * (pA m F T S D lp).1 : Nat)))) Z1 C1) (pA m F T S D lp).1 Z2) C2) (v := iI (gtI G (2 * (pA m F T S D lp).1)))
  have st4 : L (d + 5) 260 224 [some (.ref y), some (.ref n), some (.int (iI (2 * (pA m F T S D lp).1 : Nat))), some (.int (iI (2 * (pA m F T S D lp).1 : Nat))), l4', l5'] [] (mdW H y (dgM (rfM 0 M) (iI (pA m F T S D lp).1) (adM G (2 * (pA m F T S D lp).1) (adZ s1 (iI (2 * (pA m F T S D lp).1 : Nat)))) Z1 C1), n1', w1', g) = L (d + 5) 260 232 [some (.ref y), some (.ref n), some (.int (iI (2 * (pA m F T S D lp).1 : Nat))), some (.int (iI (2 * (pA m F T S D lp).1 : Nat))), l4', l5'] [] (mdW H y (dgM (rfM 0 M) (iI (pA m F T S D lp).1) (adZ (adM G (2 * (pA m F T S D lp).1) (adZ s1 (iI (2 * (pA m F T S D lp).1 : Nat)))) (iI (gtI G (2 * (pA m F T S D lp).1)))) Z2 C2), n2', w2', g) := by
    simp (disch := omega) only [r260_224, r260_225, r260_226, r260_229, m5, p2, m6, ad3, kl_n, kl_i, kl_r, kl_z, kl_l, kl_d, catS_0, catS_c, cat_i, cat_l, cat_d, cat_r, cat_n, kC_r, kC_x, Option.bind_some, Option.toList_some, Option.toList_none, List.cons_append, List.nil_append, gB0, gB1, gB2, gB3, gB4, rvB, nI_iI, i0, i1, l0_, wr_s, aup_s, and_true, true_and, and_self, eq_self, if_true, if_false, Nat.zero_le, Nat.reduceAdd, Nat.reduceLeDiff, gN_I, gN_L, gN_P, bI_0, bI_ok, z0, z1, Bool.true_eq, Bool.false_eq_true, not_true_eq_false, not_false_eq_true]
    rfl
  have m7 := md_0 (h := H) (y := y) (M := dgM (rfM 0 M) (iI (pA m F T S D lp).1) (adZ (adM G (2 * (pA m F T S D lp).1) (adZ s1 (iI (2 * (pA m F T S D lp).1 : Nat)))) (iI (gtI G (2 * (pA m F T S D lp).1)))) Z2 C2)
  have m8 := md_0 (h := H) (y := y) (M := roM (plM (dgM (rfM 0 M) (iI (pA m F T S D lp).1) (adZ (adM G (2 * (pA m F T S D lp).1) (adZ s1 (iI (2 * (pA m F T S D lp).1 : Nat)))) (iI (gtI G (2 * (pA m F T S D lp).1)))) Z2 C2) (pA m F T S D lp).1 Z3) C3)
  have ad4 := r_add (d := d + 4) (h := H) (r := (n3', w3', g)) (y := y) (M := roM (plM (dgM (rfM 0 M) (iI (pA m F T S D lp).1) (adZ (adM G (2 * (pA m F T S D lp).1) (adZ s1 (iI (2 * (pA m F T S D lp).1 : Nat)))) (iI (gtI G (2 * (pA m F T S D lp).1)))) Z2 C2) (pA m F T S D lp).1 Z3) C3) (v := iI (ltN G (2 * (pA m F T S D lp).1)))
  have st5 : L (d + 5) 260 232 [some (.ref y), some (.ref n), some (.int (iI (2 * (pA m F T S D lp).1 : Nat))), some (.int (iI (2 * (pA m F T S D lp).1 : Nat))), l4', l5'] [] (mdW H y (dgM (rfM 0 M) (iI (pA m F T S D lp).1) (adZ (adM G (2 * (pA m F T S D lp).1) (adZ s1 (iI (2 * (pA m F T S D lp).1 : Nat)))) (iI (gtI G (2 * (pA m F T S D lp).1)))) Z2 C2), n2', w2', g) = L (d + 5) 260 242 [some (.ref y), some (.ref n), some (.int (iI (2 * (pA m F T S D lp).1 : Nat))), some (.int (iI 0)), l4', l5'] [] (mdW H y (dgM (rfM 0 M) (iI (pA m F T S D lp).1) (adTf f 0 (adE G (2 * (pA m F T S D lp).1) s1)) Z3 C3), n3', w3', g) := by
    simp (disch := omega) only [r260_232, r260_233, r260_234, r260_237, r260_240, r260_241, m7, p3, m8, ad4, kl_n, kl_i, kl_r, kl_z, kl_l, kl_d, catS_0, catS_c, cat_i, cat_l, cat_d, cat_r, cat_n, kC_r, kC_x, Option.bind_some, Option.toList_some, Option.toList_none, List.cons_append, List.nil_append, gB0, gB1, gB2, gB3, gB4, rvB, nI_iI, i0, i1, l0_, wr_s, aup_s, and_true, true_and, and_self, eq_self, if_true, if_false, Nat.zero_le, Nat.reduceAdd, Nat.reduceLeDiff, gN_I, gN_L, gN_P, bI_0, bI_ok, z0, z1, Bool.true_eq, Bool.false_eq_true, not_true_eq_false, not_false_eq_true]
    rfl
  have m9 := md_0 (h := H) (y := y) (M := dgM (rfM 0 M) p' (adTf f 6 (adE G (2 * (pA m F T S D lp).1) s1)) Z4 C3)
  have ad5 := r_add (d := d + 4) (h := H) (r := (n3' + 1, w3' + 8, g)) (y := y) (M := dgM (rfM 0 M) p' (adTf f 6 (adE G (2 * (pA m F T S D lp).1) s1)) Z4 C3) (v := iI (fsR (ofN (-1) 0 9600 F m) 8).1)
  have z5 : sM (dgM (rfM 0 M) p' (adTf f 6 (adE G (2 * (pA m F T S D lp).1) s1)) Z4 C3) (adZ (dgM (rfM 0 M) p' (adTf f 6 (adE G (2 * (pA m F T S D lp).1) s1)) Z4 C3).1.2.2.2.2.2.2 (iI (fsR (ofN (-1) 0 9600 F m) 8).1)) = dgM (rfM 0 M) p' (adZ (adTf f 6 (adE G (2 * (pA m F T S D lp).1) s1)) (iI (fsR (ofN (-1) 0 9600 F m) 8).1)) Z4 C3 := rfl
  rw [z5] at ad5
  have m10 := md_0 (h := H) (y := y) (M := dgM (rfM 0 M) p' (adZ (adTf f 6 (adE G (2 * (pA m F T S D lp).1) s1)) (iI (fsR (ofN (-1) 0 9600 F m) 8).1)) Z4 C3)
  have st6 : L (d + 5) 260 263 [some (.ref y), some (.ref n), some (.int (iI (2 * (pA m F T S D lp).1 : Nat))), some (.int (iI 6)), l4', l5'] [] (mdW H y (dgM (rfM 0 M) p' (adTf f 6 (adE G (2 * (pA m F T S D lp).1) s1)) Z4 C3), n3', w3', g) = some (.inl (some (.long (adZ (adTf f 6 (adE G (2 * (pA m F T S D lp).1) s1)) (iI (fsR (ofN (-1) 0 9600 F m) 8).1)))), (mdW H y (dgM (rfM 0 M) p' (adZ (adTf f 6 (adE G (2 * (pA m F T S D lp).1) s1)) (iI (fsR (ofN (-1) 0 9600 F m) 8).1)) Z4 C3), n3' + 1, w3' + 8, g)) := by
    simp (disch := omega) only [r260_263, r260_264, r260_265, r260_266, r260_267, r260_270, r260_273, r260_276, r260_277, r260_280, m9, bn, ad5, m10, mg14, kl_n, kl_i, kl_r, kl_z, kl_l, kl_d, catS_0, catS_c, cat_i, cat_l, cat_d, cat_r, cat_n, kC_r, kC_x, Option.bind_some, Option.toList_some, Option.toList_none, List.cons_append, List.nil_append, gB0, gB1, gB2, gB3, gB4, rvB, nI_iI, i0, i1, l0_, wr_s, aup_s, and_true, true_and, and_self, eq_self, if_true, if_false, Nat.zero_le, Nat.reduceAdd, Nat.reduceLeDiff, gN_I, gN_L, gN_P, bI_0, bI_ok, z0, z1, Bool.true_eq, Bool.false_eq_true, not_true_eq_false, not_false_eq_true]
    rfl
  have hL : L (d + 5) 260 0 [some (.ref y), none, none, none, none, none] [] (mdW h y M, n, w, g) = _ := ((((((((st1.trans st2).trans d1).trans d2).trans st3).trans d3).trans st4).trans st5).trans d4).trans st6
  rw [e260, hL, hH, fin_mt hy]
end
