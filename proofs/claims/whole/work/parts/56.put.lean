/-! ===== the reference's notes: put, taken ===== -/
/-- the row of all numbers: n notes as F tells, what lies behind them as X tells -/
def nB (n : Nat) (F : Nat → Nat) (X : Nat → Int32) : Nat → Int32 := fun k => if k = 0 then iI n else if (k - 1) / 5 < n then iI (cFact (F ((k - 1) / 5)) ((k - 1) % 5)) else X k
theorem nB_0 {n : Nat} {F : Nat → Nat} {R : Nat → Int32} : nB n F R 0 = iI n := if_pos rfl
theorem nB_n {n : Nat} {F : Nat → Nat} {R : Nat → Int32} {i j : Nat} (hi : i < n) (hj : j < 5) : nB n F R (1 + 5 * i + j) = iI (cFact (F i) j) := by
  unfold nB
  rw [if_neg (by omega), show (1 + 5 * i + j - 1) / 5 = i by omega, show (1 + 5 * i + j - 1) % 5 = j by omega, if_pos hi]
theorem nB_ext {n : Nat} {F G : Nat → Nat} {X Y : Nat → Int32} (h1 : ∀ i, i < n → F i = G i) (h2 : ∀ k, 1 + 5 * n ≤ k → X k = Y k) : nB n F X = nB n G Y := by
  funext k
  unfold nB
  by_cases e0 : k = 0
  · rw [if_pos e0, if_pos e0]
  · rw [if_neg e0, if_neg e0]
    by_cases e1 : (k - 1) / 5 < n
    · rw [if_pos e1, if_pos e1, h1 _ e1]
    · rw [if_neg e1, if_neg e1, h2 k (by omega)]
section
variable {d : Nat} {h : aHf} {r : Nat × Nat × Nat}
theorem s_acopy {s t N K sp dp m : Nat} {f f' : Nat → Int32} (hs : h s = some (aI .int N f)) (ht : h t = some (aI .int K f')) (h1 : sp + m ≤ N) (h2 : dp + m ≤ K) (h3 : N < 2147483648) (h4 : K < 2147483648) {n : Nat} :
    aPrim 1001 [.ref s, .int (iI sp), .ref t, .int (iI dp), .int (iI m)] (h, n, r) = some (.inl none, (aup h t (aI .int K (va_cpy f f' sp dp m)), n, r)) := by
  have z : ∀ k : Nat, k < 2147483648 → ¬ (iI (k : Int) < 0) := fun k hk => by
    rw [i0, iI_lt (by omega) (by omega) (by omega) (by omega)]
    omega
  have c : ∀ k : Nat, k < 2147483648 → (iI (k : Int)).toNatClampNeg = k := fun k hk => by
    rw [iI_cl (by omega) (by omega), Int.toNat_natCast]
  show (wr h t (cpC h (h s) (h t) (iI sp) (iI dp) (iI m))).bind _ = _
  rw [hs, ht]
  show (wr h t (if iI (sp : Int) < 0 ∨ iI (dp : Int) < 0 ∨ iI (m : Int) < 0 ∨ N < (iI (sp : Int)).toNatClampNeg + (iI (m : Int)).toNatClampNeg ∨ K < (iI (dp : Int)).toNatClampNeg + (iI (m : Int)).toNatClampNeg then none
      else some (aI .int K (va_cpy f f' (iI (sp : Int)).toNatClampNeg (iI (dp : Int)).toNatClampNeg (iI (m : Int)).toNatClampNeg)))).bind _ = _
  rw [c sp (by omega), c dp (by omega), c m (by omega), if_neg (fun q => by
    rcases q with q | q | q | q | q
    · exact z sp (by omega) q
    · exact z dp (by omega) q
    · exact z m (by omega) q
    · omega
    · omega)]
  rfl
end
section
variable {d n w : Nat} {g : Nat × Nat} {h : aHf} {y : Nat} {M : Md}
theorem put_loop {p a N c m : Nat} {F : Nat → Nat} {R f : Nat → Int32} (hy : y + 531 ≤ n) (hp : h p = some (aI .int N f)) (py : y + 531 ≤ p) (pn : p < n) (ha : a + 5 ≤ N ∧ N ≤ 1000) (fa : ∀ j, j < 5 → f (a + j) = iI (cFact c j)) (hc : cOk c) (hF : ∀ i, cOk (F i)) (hm : m ≤ 60) (hA : M.2.1 = nB m F R) :
    ∀ i n w : Nat, i ≤ m → p < n → y + 531 ≤ n → ∃ t, t ≤ i + 1 - sk F c i ∧ L (d + 1) 201 7 [some (.ref y), some (.ref p), some (.int (iI a)), some (.int (iI i))] [] (mdW h y M, n, w, g) =
      L (d + 1) 201 36 [some (.ref y), some (.ref p), some (.int (iI a)), some (.int (iI (sk F c i)))] [] (mdW h y M, n + t, w + 5 * t, g) := by
  intro i
  induction i with
  | zero =>
    intro n w hi hn hy2
    refine ⟨0, Nat.zero_le _, ?_⟩
    have c1 : ((0 : Nat) : Int) ≤ 0 := by omega
    rw [r201_7]
    simp (disch := omega) only [r201_8, r201_11, r201_12, r201_13, r201_14, r201_17, r201_18, r201_19, r201_20, r201_21, r201_22, r201_23, r201_24, r201_27, r201_30, r201_33, iI_le, c1, kl_n, kl_i, kl_r, kl_z, kl_l, kl_d, catS_0, catS_c, cat_i, cat_l, cat_d, cat_r, cat_n, kC_r, kC_x, Option.bind_some, Option.toList_some, Option.toList_none, List.cons_append, List.nil_append, gB0, gB1, gB2, gB3, gB4, rvB, nI_iI, i0, i1, l0_, wr_s, aup_s, and_true, true_and, and_self, eq_self, if_true, if_false, Nat.zero_le, Nat.reduceAdd, Nat.reduceLeDiff, gN_I, gN_L, gN_P, bI_0, bI_ok, z0, z1, Bool.true_eq, Bool.false_eq_true, not_true_eq_false, not_false_eq_true]
    rfl
  | succ i ih =>
    intro n w hi hn hy2
    have c1 : ¬ ((i + 1 : Nat) : Int) ≤ 0 := by omega
    have e1 : ((i + 1 : Nat) : Int) - 1 = (i : Int) := by omega
    have e2 : 1 + 5 * (i : Int) = ((1 + 5 * i : Nat) : Int) := by omega
    have e3 : ((i + 1 : Nat) : Int) + -1 = (i : Int) := by omega
    have hb := hF i
    have cm := s_compare (d := d) (n := n) (w := w) (g := g) (h := mdW h y M) (p := p) (q := y + 1) (N := N) (K := 385) (a := a) (b := 1 + 5 * i) (c := c) (e := F i) (f := f) (f' := nB m F R) (by rw [md_out py]; exact hp) (by rw [md_1, hA]) hn (by omega) ha (by omega) fa (fun j hj => nB_n (by omega) hj) hc hb
    have c2 : ¬ iI ((i + 1 : Nat) : Int) ≤ 0 := by
      rw [i0, iI_le (by omega) (by omega) (by omega) (by omega)]
      omega
    by_cases q : c < F i
    · have ek : cmpC c (F i) = -1 := if_pos q
      rw [ek] at cm
      have c3 : ¬ (0 : Int) ≤ -1 := by omega
      have es : sk F c (i + 1) = sk F c i := if_pos q
      obtain ⟨t, z1, z2⟩ := ih (n + 1) (w + 5) (by omega) (by omega) (by omega)
      refine ⟨t + 1, by rw [es]; have := sk_le F c i; omega, ?_⟩
      rw [es, show n + (t + 1) = n + 1 + t by omega, show w + 5 * (t + 1) = w + 5 + 5 * t by omega, ← z2, r201_7]
      simp (disch := omega) only [r201_8, r201_11, r201_12, r201_13, r201_14, r201_17, r201_18, r201_19, r201_20, r201_21, r201_22, r201_23, r201_24, r201_27, r201_30, r201_33, md_0, iI_le, c1, iI_sub, e1, iI_mul, iI_add, e2, cm, c3, e3, kl_n, kl_i, kl_r, kl_z, kl_l, kl_d, catS_0, catS_c, cat_i, cat_l, cat_d, cat_r, cat_n, kC_r, kC_x, Option.bind_some, Option.toList_some, Option.toList_none, List.cons_append, List.nil_append, gB0, gB1, gB2, gB3, gB4, rvB, nI_iI, i0, i1, l0_, wr_s, aup_s, and_true, true_and, and_self, eq_self, if_true, if_false, Nat.zero_le, Nat.reduceAdd, Nat.reduceLeDiff, gN_I, gN_L, gN_P, bI_0, bI_ok, z0, z1, Bool.true_eq, Bool.false_eq_true, not_true_eq_false, not_false_eq_true]
    · have c3 : (0 : Int) ≤ cmpC c (F i) := by
        unfold cmpC
        rw [if_neg q]
        split <;> omega
      have c4 : cmpC c (F i) ≤ 1 := by
        unfold cmpC
        rw [if_neg q]
        split <;> omega
      have es : sk F c (i + 1) = i + 1 := if_neg q
      refine ⟨1, by rw [es]; omega, ?_⟩
      rw [es, r201_7]
      simp (disch := omega) only [r201_8, r201_11, r201_12, r201_13, r201_14, r201_17, r201_18, r201_19, r201_20, r201_21, r201_22, r201_23, r201_24, r201_27, r201_30, r201_33, md_0, iI_le, c1, iI_sub, e1, iI_mul, iI_add, e2, cm, c3, kl_n, kl_i, kl_r, kl_z, kl_l, kl_d, catS_0, catS_c, cat_i, cat_l, cat_d, cat_r, cat_n, kC_r, kC_x, Option.bind_some, Option.toList_some, Option.toList_none, List.cons_append, List.nil_append, gB0, gB1, gB2, gB3, gB4, rvB, nI_iI, i0, i1, l0_, wr_s, aup_s, and_true, true_and, and_self, eq_self, if_true, if_false, Nat.zero_le, Nat.reduceAdd, Nat.reduceLeDiff, gN_I, gN_L, gN_P, bI_0, bI_ok, z0, z1, Bool.true_eq, Bool.false_eq_true, not_true_eq_false, not_false_eq_true]
end
theorem ins_arr {m P a c : Nat} {F : Nat → Nat} {R f : Nat → Int32} (hP : P ≤ m) (fa : ∀ j, j < 5 → f (a + j) = iI (cFact c j)) :
    upd (va_cpy f (va_cpy (nB m F R) (nB m F R) (1 + 5 * P) (6 + 5 * P) (5 * (m - P))) a (1 + 5 * P) 5) 0 (iI (m + 1 : Nat)) = nB (m + 1) (insN F P m c) R := by
  funext k
  unfold upd va_cpy
  by_cases e0 : k = 0
  · rw [if_pos e0, e0, nB_0]
  · rw [if_neg e0]
    by_cases e1 : 1 + 5 * P ≤ k ∧ k < 1 + 5 * P + 5
    · rw [if_pos e1, fa _ (by omega)]
      unfold nB insN
      rw [if_neg e0, if_pos (by omega), if_pos (by omega), show (k - 1) % 5 = k - (1 + 5 * P) by omega]
    · rw [if_neg e1]
      by_cases e2 : 6 + 5 * P ≤ k ∧ k < 6 + 5 * P + 5 * (m - P)
      · rw [if_pos e2, show 1 + 5 * P + (k - (6 + 5 * P)) = k - 5 by omega]
        unfold nB insN
        rw [if_neg (by omega), if_pos (by omega), if_neg e0, if_pos (by omega), if_neg (by omega), if_pos (by omega), show (k - 5 - 1) / 5 = (k - 1) / 5 - 1 by omega, show (k - 5 - 1) % 5 = (k - 1) % 5 by omega]
      · rw [if_neg e2]
        unfold nB insN
        rw [if_neg e0, if_neg e0]
        by_cases e4 : (k - 1) / 5 < m
        · rw [if_pos e4, if_pos (by omega), if_neg (by omega), if_neg (by omega)]
        · rw [if_neg e4, if_neg (by omega)]
section
variable {d n w : Nat} {g : Nat × Nat} {h : aHf} {y : Nat} {M : Md}
theorem r_put {p a N c m : Nat} {F : Nat → Nat} {R f : Nat → Int32} (hy : y + 531 ≤ n) (hp : h p = some (aI .int N f)) (py : y + 531 ≤ p) (pn : p < n) (ha : a + 5 ≤ N ∧ N ≤ 1000) (fa : ∀ j, j < 5 → f (a + j) = iI (cFact c j)) (hc : cOk c) (hF : ∀ i, cOk (F i)) (hm : m < 60) (hA : M.2.1 = nB m F R) :
    ∃ t, t ≤ m + 1 - sk F c m ∧ aE (d + 2) 201 [.ref y, .ref p, .int (iI a)] (mdW h y M, n, w, g) = some (.inl (some (.int (iI (sk F c m)))), (mdW h y (M.1, nB (m + 1) (insN F (sk F c m) m c) R, M.2.2), n + t, w + 5 * t, g)) := by
  obtain ⟨t, t1, hl⟩ := put_loop (d := d) (g := g) (h := h) (y := y) (M := M) hy hp py pn ha fa hc hF (by omega) hA m n w (Nat.le_refl m) pn hy
  refine ⟨t, t1, ?_⟩
  have hP := sk_le F c m
  generalize sk F c m = P at hl hP ⊢
  have g0 : gI (some (aI .int 385 (nB m F R))) (iI 0) = some (iI m) := by
    have e := gI_I (N := 385) (f := nB m F R) (j := 0) (by omega) (by omega) (by omega)
    exact e
  have c1 := s_acopy (h := mdW h y M) (n := n + t) (r := (w + 5 * t, g)) (s := y + 1) (t := y + 1) (sp := 1 + 5 * P) (dp := 6 + 5 * P) (m := 5 * (m - P)) (md_1 (h := h) (y := y) (M := M)) (md_1 (h := h) (y := y) (M := M)) (by omega) (by omega) (by omega) (by omega)
  rw [md_a, hA] at c1
  have c2 := s_acopy (h := mdW h y (M.1, va_cpy (nB m F R) (nB m F R) (1 + 5 * P) (6 + 5 * P) (5 * (m - P)), M.2.2)) (n := n + t) (r := (w + 5 * t, g)) (s := p) (t := y + 1) (sp := a) (dp := 1 + 5 * P) (m := 5) (by rw [md_out py]; exact hp) md_1 (by omega) (by omega) (by omega) (by omega)
  rw [md_a, show ((5 : Nat) : Int) = 5 from rfl] at c2
  have f1 : 1 + 5 * (P : Int) = ((1 + 5 * P : Nat) : Int) := by omega
  have f2 : ((1 + 5 * P : Nat) : Int) + 5 = ((6 + 5 * P : Nat) : Int) := by omega
  have f3 : 5 * ((m : Int) - (P : Int)) = ((5 * (m - P) : Nat) : Int) := by omega
  have g1 : gI (some (aI .int 385 (va_cpy f (va_cpy (nB m F R) (nB m F R) (1 + 5 * P) (6 + 5 * P) (5 * (m - P))) a (1 + 5 * P) 5))) (iI 0) = some (iI m) := by
    have e := gI_I (N := 385) (f := va_cpy f (va_cpy (nB m F R) (nB m F R) (1 + 5 * P) (6 + 5 * P) (5 * (m - P))) a (1 + 5 * P) 5) (j := 0) (by omega) (by omega) (by omega)
    rw [e]
    unfold va_cpy
    show some (if 1 + 5 * P ≤ 0 ∧ 0 < 1 + 5 * P + 5 then _ else if 6 + 5 * P ≤ 0 ∧ 0 < 6 + 5 * P + 5 * (m - P) then _ else nB m F R 0) = _
    rw [if_neg (by omega), if_neg (by omega), nB_0]
  have s1 : sI (some (aI .int 385 (va_cpy f (va_cpy (nB m F R) (nB m F R) (1 + 5 * P) (6 + 5 * P) (5 * (m - P))) a (1 + 5 * P) 5))) (iI 0) (iI (m + 1 : Nat)) = some (aI .int 385 (nB (m + 1) (insN F P m c) R)) := by
    have e := sI_I (N := 385) (f := va_cpy f (va_cpy (nB m F R) (nB m F R) (1 + 5 * P) (6 + 5 * P) (5 * (m - P))) a (1 + 5 * P) 5) (j := 0) (x := iI (m + 1 : Nat)) (by omega) (by omega) (by omega)
    rw [show (0 : Int).toNat = 0 from rfl, ins_arr hP fa] at e
    exact e
  have f4 : (m : Int) + 1 = ((m + 1 : Nat) : Int) := by omega
  have hA2 : L (d + 1) 201 0 [some (.ref y), some (.ref p), some (.int (iI a)), none] [] (mdW h y M, n, w, g) = some (.inl (some (.int (iI P))), (mdW h y (M.1, nB (m + 1) (insN F P m c) R, M.2.2), n + t, w + 5 * t, g)) := by
    simp (disch := omega) only [r201_0, r201_1, r201_4, r201_5, r201_6, md_0, md_1, hA, g0, hl, kl_n, kl_i, kl_r, kl_z, kl_l, kl_d, catS_0, catS_c, cat_i, cat_l, cat_d, cat_r, cat_n, kC_r, kC_x, Option.bind_some, Option.toList_some, Option.toList_none, List.cons_append, List.nil_append, gB0, gB1, gB2, gB3, gB4, rvB, nI_iI, i0, i1, l0_, wr_s, aup_s, and_true, true_and, and_self, eq_self, if_true, if_false, Nat.zero_le, Nat.reduceAdd, Nat.reduceLeDiff, gN_I, gN_L, gN_P, bI_0, bI_ok, z0, z1, Bool.true_eq, Bool.false_eq_true, not_true_eq_false, not_false_eq_true]
    simp (disch := omega) only [r201_36, r201_37, r201_40, r201_41, r201_42, r201_43, r201_44, r201_45, r201_46, r201_49, r201_50, r201_51, r201_52, r201_53, r201_54, r201_55, r201_56, r201_57, r201_58, r201_61, r201_62, r201_63, r201_64, r201_65, r201_66, r201_69, r201_70, r201_71, r201_72, r201_75, r201_76, r201_77, r201_78, r201_79, r201_80, r201_81, r201_84, r201_85, r201_88, r201_89, r201_90, r201_91, r201_92, r201_93, r201_94, r201_95, md_0, md_1, hA, g0, iI_mul, iI_add, iI_sub, f1, f2, f3, c1, c2, g1, f4, s1, md_a, kl_n, kl_i, kl_r, kl_z, kl_l, kl_d, catS_0, catS_c, cat_i, cat_l, cat_d, cat_r, cat_n, kC_r, kC_x, Option.bind_some, Option.toList_some, Option.toList_none, List.cons_append, List.nil_append, gB0, gB1, gB2, gB3, gB4, rvB, nI_iI, i0, i1, l0_, wr_s, aup_s, and_true, true_and, and_self, eq_self, if_true, if_false, Nat.zero_le, Nat.reduceAdd, Nat.reduceLeDiff, gN_I, gN_L, gN_P, bI_0, bI_ok, z0, z1, Bool.true_eq, Bool.false_eq_true, not_true_eq_false, not_false_eq_true]
  rw [e201, hA2, fin_fr hy (fun q hq => rfl)]
end
