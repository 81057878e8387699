/-! ===== the reference sorts its notes anew ===== -/
theorem srtN_hi (F : Nat → Nat) : ∀ k i, k ≤ i → srtN F k i = F i
  | 0, _, _ => rfl
  | k + 1, i, h => by
    have hs := sk_le (srtN F k) (srtN F k k) k
    show insN (srtN F k) (sk (srtN F k) (srtN F k k) k) k (srtN F k k) i = F i
    unfold insN
    rw [if_neg (by omega), if_neg (by omega)]
    exact srtN_hi F k i (by omega)
theorem srtN_k (F : Nat → Nat) (k : Nat) : srtN F (k + 1) = insN (srtN F k) (sk (srtN F k) (F k) k) k (F k) := by
  show insN (srtN F k) (sk (srtN F k) (srtN F k k) k) k (srtN F k k) = _
  rw [srtN_hi F k k (Nat.le_refl k)]
/-- how often notes are compared at most -/
def invN (F : Nat → Nat) : Nat → Nat := sm (fun j => j + 1 - sk (srtN F j) (F j) j)
section
variable {d : Nat} {g : Nat × Nat} {y : Nat}
theorem so_loop {q m : Nat} {F : Nat → Nat} {A f : Nat → Int32} (hm : m ≤ 60) (hF : ∀ i, cOk (F i)) (py : y + 531 ≤ q) (hf : ∀ k j, k < m → j < 5 → f (5 * k + j) = iI (cFact (F k) j)) :
    ∀ (s k n w : Nat) (h : aHf) (M : Md), k + s = m → h q = some (aI .int 300 f) → q < n → M.2.1 = nB k (srtN F k) A → ∃ t, t + invN F k ≤ invN F m ∧
      L (d + 3) 203 28 [some (.ref y), some (.int (iI m)), some (.ref q), some (.int (iI k))] [] (mdW h y M, n, w, g) = some (.inl none, (mdW h y (M.1, nB m (srtN F m) A, M.2.2), n + t, w + 5 * t, g)) := by
  intro s
  induction s with
  | zero =>
    intro k n w h M hk hq hn hA
    obtain rfl : k = m := by omega
    have c1 : (k : Int) ≤ k := by omega
    refine ⟨0, by omega, ?_⟩
    rw [← hA, r203_28]
    simp (disch := omega) only [r203_0, r203_1, r203_4, r203_5, r203_6, r203_7, r203_8, r203_11, r203_12, r203_15, r203_18, r203_19, r203_20, r203_23, r203_24, r203_25, r203_26, r203_27, r203_29, r203_30, r203_33, r203_34, r203_35, r203_36, r203_37, r203_38, r203_41i, r203_41, r203_42, r203_45, r203_48, iI_le, c1, kl_n, kl_i, kl_r, kl_z, kl_l, kl_d, catS_0, catS_c, cat_i, cat_l, cat_d, cat_r, cat_n, kC_r, kC_x, Option.bind_some, Option.toList_some, Option.toList_none, List.cons_append, List.nil_append, gB0, gB1, gB2, gB3, gB4, rvB, nI_iI, i0, i1, l0_, wr_s, aup_s, and_true, true_and, and_self, eq_self, if_true, if_false, Nat.zero_le, Nat.reduceAdd, Nat.reduceLeDiff, gN_I, gN_L, gN_P, bI_0, bI_ok, z0, z1, Bool.true_eq, Bool.false_eq_true, not_true_eq_false, not_false_eq_true]
    rfl
  | succ s ih =>
    intro k n w h M hk hq hn hA
    have c1 : ¬ (m : Int) ≤ k := by omega
    have e1 : (k : Int) + 1 = ((k + 1 : Nat) : Int) := by omega
    have e2 : 5 * (k : Int) = ((5 * k : Nat) : Int) := by omega
    obtain ⟨t, t1, z1⟩ := r_put (d := d + 1) (n := n) (w := w) (g := g) (h := h) (y := y) (M := M) (p := q) (a := 5 * k) (N := 300) (c := F k) (m := k) (F := srtN F k) (R := A) (f := f) (by omega) hq py hn (by omega) (fun j hj => hf k j (by omega) hj) (hF k) (srtN_ok hF k) (by omega) hA
    rw [← srtN_k] at z1
    obtain ⟨t2, t3, z2⟩ := ih (k + 1) (n + t) (w + 5 * t) h (M.1, nB (k + 1) (srtN F (k + 1)) A, M.2.2) (by omega) hq (by omega) rfl
    have e3 : invN F (k + 1) = invN F k + (k + 1 - sk (srtN F k) (F k) k) := rfl
    refine ⟨t + t2, by omega, ?_⟩
    rw [r203_28]
    simp (disch := omega) only [r203_0, r203_1, r203_4, r203_5, r203_6, r203_7, r203_8, r203_11, r203_12, r203_15, r203_18, r203_19, r203_20, r203_23, r203_24, r203_25, r203_26, r203_27, r203_29, r203_30, r203_33, r203_34, r203_35, r203_36, r203_37, r203_38, r203_41i, r203_41, r203_42, r203_45, r203_48, iI_le, c1, md_0, iI_mul, e2, z1, iI_add, e1, z2, kl_n, kl_i, kl_r, kl_z, kl_l, kl_d, catS_0, catS_c, cat_i, cat_l, cat_d, cat_r, cat_n, kC_r, kC_x, Option.bind_some, Option.toList_some, Option.toList_none, List.cons_append, List.nil_append, gB0, gB1, gB2, gB3, gB4, rvB, nI_iI, i0, i1, l0_, wr_s, aup_s, and_true, true_and, and_self, eq_self, if_true, if_false, Nat.zero_le, Nat.reduceAdd, Nat.reduceLeDiff, gN_I, gN_L, gN_P, bI_0, bI_ok, z0, z1, Bool.true_eq, Bool.false_eq_true, not_true_eq_false, not_false_eq_true]
    rw [show n + t + t2 = n + (t + t2) by omega, show w + 5 * t + 5 * t2 = w + 5 * (t + t2) by omega]
theorem r_sort {n w m : Nat} {h : aHf} {M : Md} {F : Nat → Nat} {X : Nat → Int32} (hy : y + 531 ≤ n) (hm : m ≤ 60) (hF : ∀ i, cOk (F i)) (hA : M.2.1 = nB m F X) :
    ∃ t, t ≤ invN F m ∧ aE (d + 4) 203 [.ref y] (mdW h y M, n, w, g) = some (.inl none, (mdW h y (M.1, nB m (srtN F m) X, M.2.2), n + 1 + t, w + 300 + 5 * t, g)) := by
  have g0 : gI (some (aI .int 385 (nB m F X))) (iI 0) = some (iI m) := by
    have e := gI_I (N := 385) (f := nB m F X) (j := 0) (by omega) (by omega) (by omega)
    exact e
  have cr := s_cpR (d := d) (w := w) (g := g) (n := n) (h := mdW h y M) (p := y + 1) (a := 1) (b := 301) (md_1 (h := h) (y := y) (M := M)) (by omega) (by omega) (by omega)
  rw [md_n hy, hA, show ((1 : Nat) : Int) = 1 from rfl, show ((301 : Nat) : Int) = 301 from rfl, show 301 - 1 = 300 from rfl] at cr
  have su : sI (some (aI .int 385 (nB m F X))) (iI 0) (iI 0) = some (aI .int 385 (nB 0 F (nB m F X))) := by
    have e := sI_I (N := 385) (f := nB m F X) (j := 0) (x := iI 0) (by omega) (by omega) (by omega)
    rw [e]
    refine congrArg some (congrArg (aI .int 385) ?_)
    funext k
    unfold upd
    show (if k = 0 then iI 0 else nB m F X k) = if k = 0 then iI ((0 : Nat) : Int) else if (k - 1) / 5 < 0 then _ else nB m F X k
    by_cases e0 : k = 0
    · rw [if_pos e0, if_pos e0]
      rfl
    · rw [if_neg e0, if_neg e0, if_neg (by omega)]
  obtain ⟨t, t1, z1⟩ := so_loop (d := d) (g := g) (y := y) (q := n) (m := m) (F := F) (A := nB m F X) (f := va_cpy (nB m F X) (fun _ => iI 0) 1 0 300) hm hF hy (fun k j hk hj => by
    unfold va_cpy
    rw [if_pos (by omega), show 1 + (5 * k + j - 0) = 1 + 5 * k + j by omega]
    exact nB_n hk hj) m 0 (n + 1) (w + 300) (aup h n (aI .int 300 (va_cpy (nB m F X) (fun _ => iI 0) 1 0 300))) (M.1, nB 0 F (nB m F X), M.2.2) (by omega) aup_s (by omega) rfl
  have e0 : nB m (srtN F m) (nB m F X) = nB m (srtN F m) X := by
    funext k
    unfold nB
    by_cases e0 : k = 0
    · simp only [e0, if_true]
    · by_cases e1 : (k - 1) / 5 < m
      · simp only [e0, e1, if_true, if_false]
      · simp only [e0, e1, if_false]
  rw [e0, show ((0 : Nat) : Int) = 0 from rfl] at z1
  refine ⟨t, by have : invN F 0 = 0 := rfl; omega, ?_⟩
  have hL : L (d + 3) 203 0 [some (.ref y), none, none, none] [] (mdW h y M, n, w, g) = some (.inl none, (mdW (aup h n (aI .int 300 (va_cpy (nB m F X) (fun _ => iI 0) 1 0 300))) y (M.1, nB m (srtN F m) X, M.2.2), n + 1 + t, w + 300 + 5 * t, g)) := by
    simp (disch := omega) only [r203_0, r203_1, r203_4, r203_5, r203_6, r203_7, r203_8, r203_11, r203_12, r203_15, r203_18, r203_19, r203_20, r203_23, r203_24, r203_25, r203_26, r203_27, md_0, md_1, hA, g0, cr, su, md_a, z1, kl_n, kl_i, kl_r, kl_z, kl_l, kl_d, catS_0, catS_c, cat_i, cat_l, cat_d, cat_r, cat_n, kC_r, kC_x, Option.bind_some, Option.toList_some, Option.toList_none, List.cons_append, List.nil_append, gB0, gB1, gB2, gB3, gB4, rvB, nI_iI, i0, i1, l0_, wr_s, aup_s, and_true, true_and, and_self, eq_self, if_true, if_false, Nat.zero_le, Nat.reduceAdd, Nat.reduceLeDiff, gN_I, gN_L, gN_P, bI_0, bI_ok, z0, z1, Bool.true_eq, Bool.false_eq_true, not_true_eq_false, not_false_eq_true]
  rw [e203, hL, fin_fr hy (fun q hq => aup_o (by omega))]
end
