/-! ===== the reference's notes: put, taken ===== -/
/-- the row of all numbers: n notes as F tells, what lies behind them as R tells -/
def nA (n : Nat) (F : Nat → Nat) (R : Nat → Int32) : Nat → Int32 := fun k => if k = 0 then iI n else if k < 301 then (if (k - 1) / 5 < n then iI (cFact (F ((k - 1) / 5)) ((k - 1) % 5)) else iI 0) else R k
theorem nA_0 {n : Nat} {F : Nat → Nat} {R : Nat → Int32} : nA n F R 0 = iI n := if_pos rfl
theorem nA_n {n : Nat} {F : Nat → Nat} {R : Nat → Int32} {i j : Nat} (hi : i < n) (hn : n ≤ 60) (hj : j < 5) : nA n F R (1 + 5 * i + j) = iI (cFact (F i) j) := by
  unfold nA
  rw [if_neg (by omega), if_pos (by omega), show (1 + 5 * i + j - 1) / 5 = i by omega, show (1 + 5 * i + j - 1) % 5 = j by omega, if_pos hi]
section
variable {d : Nat} {h : aHf} {r : Nat × Nat × Nat}
theorem s_acopy {s t N K sp dp m : Nat} {f f' : Nat → Int32} (hs : h s = some (aI .int N f)) (ht : h t = some (aI .int K f')) (h1 : sp + m ≤ N) (h2 : dp + m ≤ K) (h3 : N < 2147483648) (h4 : K < 2147483648) {n : Nat} :
    aPrim 1001 [.ref s, .int (iI sp), .ref t, .int (iI dp), .int (iI m)] (h, n, r) = some (.inl none, (aup h t (aI .int K (va_cpy f f' sp dp m)), n, r)) := by
  have z : ∀ k : Nat, k < 2147483648 → ¬ (iI (k : Int) < 0) := fun k hk => by
    rw [i0, iI_lt (by omega) (by omega) (by omega) (by omega)]
    omega
  have c : ∀ k : Nat, k < 2147483648 → (iI (k : Int)).toNatClampNeg = k := fun k hk => by
    rw [iI_cl (by omega) (by omega), Int.toNat_natCast]
  show (wr h t (cpC h (h s) (h t) (iI sp) (iI dp) (iI m))).bind _ = _
  rw [hs, ht]
  show (wr h t (if iI (sp : Int) < 0 ∨ iI (dp : Int) < 0 ∨ iI (m : Int) < 0 ∨ N < (iI (sp : Int)).toNatClampNeg + (iI (m : Int)).toNatClampNeg ∨ K < (iI (dp : Int)).toNatClampNeg + (iI (m : Int)).toNatClampNeg then none
      else some (aI .int K (va_cpy f f' (iI (sp : Int)).toNatClampNeg (iI (dp : Int)).toNatClampNeg (iI (m : Int)).toNatClampNeg)))).bind _ = _
  rw [c sp (by omega), c dp (by omega), c m (by omega), if_neg (fun q => by
    rcases q with q | q | q | q | q
    · exact z sp (by omega) q
    · exact z dp (by omega) q
    · exact z m (by omega) q
    · omega
    · omega)]
  rfl
end
section
variable {d n w : Nat} {g : Nat × Nat} {h : aHf} {y : Nat} {M : Md}
theorem put_loop {p a N c m : Nat} {F : Nat → Nat} {R f : Nat → Int32} (hy : y + 531 ≤ n) (hp : h p = some (aI .int N f)) (py : y + 531 ≤ p) (pn : p < n) (ha : a + 5 ≤ N ∧ N ≤ 1000) (fa : ∀ j, j < 5 → f (a + j) = iI (cFact c j)) (hc : cOk c) (hF : ∀ i, cOk (F i)) (hm : m ≤ 60) (hA : M.2.1 = nA m F R) :
    ∀ i n w : Nat, i ≤ m → p < n → y + 531 ≤ n → ∃ t, t ≤ i ∧ L (d + 1) 201 7 [some (.ref y), some (.ref p), some (.int (iI a)), some (.int (iI i))] [] (mdW h y M, n, w, g) =
      L (d + 1) 201 36 [some (.ref y), some (.ref p), some (.int (iI a)), some (.int (iI (sk F c i)))] [] (mdW h y M, n + t, w + 5 * t, g) := by
  intro i
  induction i with
  | zero =>
    intro n w hi hn hy2
    refine ⟨0, Nat.le_refl 0, ?_⟩
    have c1 : ((0 : Nat) : Int) ≤ 0 := by omega
    rw [r201_7]
    simp (disch := omega) only [r201_8, r201_11, r201_12, r201_13, r201_14, r201_17, r201_18, r201_19, r201_20, r201_21, r201_22, r201_23, r201_24, r201_27, r201_30, r201_33, iI_le, c1, kl_n, kl_i, kl_r, kl_z, kl_l, kl_d, catS_0, catS_c, cat_i, cat_l, cat_d, cat_r, cat_n, kC_r, kC_x, Option.bind_some, Option.toList_some, Option.toList_none, List.cons_append, List.nil_append, gB0, gB1, gB2, gB3, gB4, rvB, nI_iI, i0, i1, l0_, wr_s, aup_s, and_true, true_and, and_self, eq_self, if_true, if_false, Nat.zero_le, Nat.reduceAdd, Nat.reduceLeDiff, gN_I, gN_L, gN_P, bI_0, bI_ok, z0, z1, Bool.true_eq, Bool.false_eq_true, not_true_eq_false, not_false_eq_true]
    rfl
  | succ i ih =>
    intro n w hi hn hy2
    have c1 : ¬ ((i + 1 : Nat) : Int) ≤ 0 := by omega
    have e1 : ((i + 1 : Nat) : Int) - 1 = (i : Int) := by omega
    have e2 : 1 + 5 * (i : Int) = ((1 + 5 * i : Nat) : Int) := by omega
    have e3 : ((i + 1 : Nat) : Int) + -1 = (i : Int) := by omega
    have hb := hF i
    have cm := s_compare (d := d) (n := n) (w := w) (g := g) (h := mdW h y M) (p := p) (q := y + 1) (N := N) (K := 385) (a := a) (b := 1 + 5 * i) (c := c) (e := F i) (f := f) (f' := nA m F R) (by rw [md_out py]; exact hp) (by rw [md_1, hA]) hn (by omega) ha (by omega) fa (fun j hj => nA_n (by omega) hm hj) hc hb
    have c2 : ¬ iI ((i + 1 : Nat) : Int) ≤ 0 := by
      rw [i0, iI_le (by omega) (by omega) (by omega) (by omega)]
      omega
    by_cases q : c < F i
    · have ek : cmpC c (F i) = -1 := if_pos q
      rw [ek] at cm
      have c3 : ¬ (0 : Int) ≤ -1 := by omega
      have es : sk F c (i + 1) = sk F c i := if_pos q
      obtain ⟨t, z1, z2⟩ := ih (n + 1) (w + 5) (by omega) (by omega) (by omega)
      refine ⟨t + 1, by omega, ?_⟩
      rw [es, show n + (t + 1) = n + 1 + t by omega, show w + 5 * (t + 1) = w + 5 + 5 * t by omega, ← z2, r201_7]
      simp (disch := omega) only [r201_8, r201_11, r201_12, r201_13, r201_14, r201_17, r201_18, r201_19, r201_20, r201_21, r201_22, r201_23, r201_24, r201_27, r201_30, r201_33, md_0, iI_le, c1, iI_sub, e1, iI_mul, iI_add, e2, cm, c3, e3, kl_n, kl_i, kl_r, kl_z, kl_l, kl_d, catS_0, catS_c, cat_i, cat_l, cat_d, cat_r, cat_n, kC_r, kC_x, Option.bind_some, Option.toList_some, Option.toList_none, List.cons_append, List.nil_append, gB0, gB1, gB2, gB3, gB4, rvB, nI_iI, i0, i1, l0_, wr_s, aup_s, and_true, true_and, and_self, eq_self, if_true, if_false, Nat.zero_le, Nat.reduceAdd, Nat.reduceLeDiff, gN_I, gN_L, gN_P, bI_0, bI_ok, z0, z1, Bool.true_eq, Bool.false_eq_true, not_true_eq_false, not_false_eq_true]
    · have c3 : (0 : Int) ≤ cmpC c (F i) := by
        unfold cmpC
        rw [if_neg q]
        split <;> omega
      have c4 : cmpC c (F i) ≤ 1 := by
        unfold cmpC
        rw [if_neg q]
        split <;> omega
      have es : sk F c (i + 1) = i + 1 := if_neg q
      refine ⟨1, by omega, ?_⟩
      rw [es, r201_7]
      simp (disch := omega) only [r201_8, r201_11, r201_12, r201_13, r201_14, r201_17, r201_18, r201_19, r201_20, r201_21, r201_22, r201_23, r201_24, r201_27, r201_30, r201_33, md_0, iI_le, c1, iI_sub, e1, iI_mul, iI_add, e2, cm, c3, kl_n, kl_i, kl_r, kl_z, kl_l, kl_d, catS_0, catS_c, cat_i, cat_l, cat_d, cat_r, cat_n, kC_r, kC_x, Option.bind_some, Option.toList_some, Option.toList_none, List.cons_append, List.nil_append, gB0, gB1, gB2, gB3, gB4, rvB, nI_iI, i0, i1, l0_, wr_s, aup_s, and_true, true_and, and_self, eq_self, if_true, if_false, Nat.zero_le, Nat.reduceAdd, Nat.reduceLeDiff, gN_I, gN_L, gN_P, bI_0, bI_ok, z0, z1, Bool.true_eq, Bool.false_eq_true, not_true_eq_false, not_false_eq_true]
end
