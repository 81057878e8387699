/-! ===== the reference splits, transposes, weighs ===== -/
theorem cF0 (c : Nat) : cFact c 0 = cT c := rfl
theorem cF1 (c : Nat) : cFact c 1 = cS c := rfl
theorem cF2 (c : Nat) : cFact c 2 = cL c := rfl
theorem cF3 (c : Nat) : cFact c 3 = cP c := rfl
theorem cF4 (c : Nat) : cFact c 4 = cF c := rfl
theorem sp1_T {c k : Nat} (hc : cOk c) (h1 : cS c < k) (h2 : k < cS c + cL c) : cT (sp1 c k) = cT c ∧ cS (sp1 c k) = cS c ∧ cL (sp1 c k) = k - cS c ∧ cP (sp1 c k) = cP c ∧ cF (sp1 c k) = cF c := by
  have a2 := cS_lt c
  have a3 := cL_lt c
  have a4 := cP_lt c
  have a5 := cF_lt c
  unfold sp1
  exact ⟨cT_O a2 a4 (by omega) a5, cS_O a2 a4 (by omega) a5, cL_O (by omega) a5, cP_O a4 (by omega) a5, cF_O a5⟩
theorem sp2_T {c k : Nat} (hc : cOk c) (h1 : cS c < k) (h2 : k < cS c + cL c) (h3 : k ≤ 9599) : cT (sp2 c k) = cT c ∧ cS (sp2 c k) = k ∧ cL (sp2 c k) = cS c + cL c - k ∧ cP (sp2 c k) = cP c ∧ cF (sp2 c k) = cF c := by
  have a2 := cS_lt c
  have a3 := cL_lt c
  have a4 := cP_lt c
  have a5 := cF_lt c
  unfold sp2
  exact ⟨cT_O (by omega) a4 (by omega) a5, cS_O (by omega) a4 (by omega) a5, cL_O (by omega) a5, cP_O a4 (by omega) a5, cF_O a5⟩
theorem sp_set {m p k : Nat} {F : Nat → Nat} {X : Nat → Int32} (hp : p < m) (hc : cOk (F p)) (h1 : cS (F p) < k) (h2 : k < cS (F p) + cL (F p)) : upd (nB m F X) (1 + 5 * p + 2) (iI (k - cS (F p) : Nat)) = nB m (upN F p (sp1 (F p) k)) X := by
  obtain ⟨t1, t2, t3, t4, t5⟩ := sp1_T hc h1 h2
  have z := nB_set (m := m) (i := p) (j := 2) (F := F) (X := X) (c := sp1 (F p) k) hp (by omega) (fun q hq hq2 => by
    obtain rfl | rfl | rfl | rfl : q = 0 ∨ q = 1 ∨ q = 3 ∨ q = 4 := by omega
    · rw [cF0, cF0, t1]
    · rw [cF1, cF1, t2]
    · rw [cF3, cF3, t4]
    · rw [cF4, cF4, t5])
  rw [cF2, t3] at z
  exact z
section
variable {d n w : Nat} {g : Nat × Nat} {h : aHf} {y : Nat} {M : Md}
theorem r_split {p k m u : Nat} {F : Nat → Nat} {X : Nat → Int32} (hy : y + 531 ≤ n) (hA : M.2.1 = nB m F X) (hm : m < 60) (hF : ∀ i, cOk (F i)) (hp : p < m) (hk : cS (F p) < k ∧ k < cS (F p) + cL (F p) ∧ k ≤ 9599) (hu : M.1.2.1 = iI u) (hb : u ≤ 20) (hU : ∀ i, i < 21 → M.2.2.2.1.1 i < 21) :
    ∃ s, s ≤ invN (upN F p (sp1 (F p) k)) m + (m + 1) ∧ aE (d + 9) 208 [.ref y, .int (iI p), .int (iI k)] (mdW h y M, n, w, g) = some (.inl (some (.int (iI (m + 1 : Nat)))),
      (mdW h y (dnM (alM (bgM M) (nB (m + 1) (insN (srtN (upN F p (sp1 (F p) k)) m) (sk (srtN (upN F p (sp1 (F p) k)) m) (sp2 (F p) k) m) m (sp2 (F p) k)) X)) u), n + 2 + s, w + 305 + 5 * s, g)) := by
  have hc := hF p
  have a1 := cT_lt hc
  have a2 := cS_lt (F p)
  have a3 := cL_lt (F p)
  have a4 := cP_lt (F p)
  have a5 := cF_lt (F p)
  have o1 : cOk (sp1 (F p) k) := cO_ok a1 a2 a4 (by omega) a5
  have o2 : cOk (sp2 (F p) k) := cO_ok a1 (by omega) a4 (by omega) a5
  have hF' : ∀ i, cOk (upN F p (sp1 (F p) k) i) := upN_ok o1 hF
  have q1 : (0 : Int) ≤ p ∧ (p : Int) < m := by omega
  have q2 : (cS (F p) : Int) + 1 ≤ k ∧ (k : Int) ≤ min 9600 ((cS (F p) : Int) + cL (F p)) - 1 := by omega
  have c1 : ¬ (m : Int) = 60 := by omega
  have e5 : (iI 5).toNatClampNeg = 5 := by decide
  have e6 : ¬ (iI 5 < iI 0 ∨ 60000000 < 5) := by decide
  have f1 : (cS (F p) : Int) + (cL (F p) : Int) - (k : Int) = ((cS (F p) + cL (F p) - k : Nat) : Int) := by omega
  have f2 : (k : Int) - (cS (F p) : Int) = ((k - cS (F p) : Nat) : Int) := by omega
  have g0 : gI (some (aI .int 385 (nB m F X))) (iI 0) = some (iI m) := gI_0 (by omega)
  have hA2 : (bgM M).2.1 = nB m F X := hA
  have bg := r_begin (d := d + 7) (n := n) (w := w) (g := g) (h := h) (y := y) (M := M)
  have m0 := fun h => md_0 (h := h) (y := y) (M := bgM M)
  have m1 : mdW h y (bgM M) (y + 1) = some (aI .int 385 (nB m F X)) := by rw [md_1]; exact congrArg (fun z => some (aI .int 385 z)) hA
  have ni := r_isNote (d := d + 6) (h := h) (r := (n, w, g)) (y := y) (M := bgM M) (p := p) hA2 (by omega) (by omega)
  -- the temporary row
  obtain ⟨v, hv⟩ : ∃ v, v = aI .int 5 (n5 (iI (cT (F p))) (iI k) (iI (cS (F p) + cL (F p) - k : Nat)) (iI (cP (F p))) (iI (cF (F p)))) := ⟨_, rfl⟩
  have nset : aE (d + 8) 198 [.ref y, .int (iI p), .int (iI 2), .int (iI (k - cS (F p) : Nat))] (mdW (aup h n v) y (bgM M), n + 1, w + 5, g) = some (.inl none, (mdW (aup h n v) y (alM (bgM M) (nB m (upN F p (sp1 (F p) k)) X)), n + 1, w + 5, g)) := by
    have e := s_setA (d := d + 7) (h := aup h n v) (r := (n + 1, w + 5, g)) (y := y) (M := bgM M) (i := p) (j := 2) (v := iI (k - cS (F p) : Nat)) (by omega)
    rw [hA2] at e
    rw [sp_set hp hc hk.1 hk.2.1] at e
    exact e
  obtain ⟨s1, t1, so⟩ := r_sort (d := d + 4) (g := g) (n := n + 1) (w := w + 5) (h := aup h n v) (y := y) (M := alM (bgM M) (nB m (upN F p (sp1 (F p) k)) X)) (m := m) (F := upN F p (sp1 (F p) k)) (X := X) (by omega) (by omega) hF' rfl
  obtain ⟨s2, t2, pu⟩ := r_put (d := d + 6) (n := n + 1 + 1 + s1) (w := w + 5 + 300 + 5 * s1) (g := g) (h := aup h n v) (y := y) (M := alM (bgM M) (nB m (srtN (upN F p (sp1 (F p) k)) m) X)) (p := n) (a := 0) (N := 5) (c := sp2 (F p) k) (m := m) (F := srtN (upN F p (sp1 (F p) k)) m) (R := X) (f := n5 (iI (cT (F p))) (iI k) (iI (cS (F p) + cL (F p) - k : Nat)) (iI (cP (F p))) (iI (cF (F p)))) (by omega) (by rw [hv]; exact aup_s) hy (by omega) (by omega) (fun j hj => by
    have z := n5_c (c := sp2 (F p) k) j hj
    obtain ⟨z1, z2, z3, z4, z5⟩ := sp2_T hc hk.1 hk.2.1 hk.2.2
    rw [z1, z2, z3, z4, z5] at z
    exact z) o2 (srtN_ok hF' m) hm rfl
  rw [show ((0 : Nat) : Int) = 0 from rfl] at pu
  have sk1 := sk_le (srtN (upN F p (sp1 (F p) k)) m) (sp2 (F p) k) m
  obtain ⟨A3, hA3⟩ : ∃ A3, A3 = nB (m + 1) (insN (srtN (upN F p (sp1 (F p) k)) m) (sk (srtN (upN F p (sp1 (F p) k)) m) (sp2 (F p) k) m) m (sp2 (F p) k)) X := ⟨_, rfl⟩
  have pu2 : aE (d + 8) 201 [.ref y, .ref n, .int (iI 0)] (mdW (aup h n v) y (alM (bgM M) (nB m (srtN (upN F p (sp1 (F p) k)) m) X)), n + 1 + 1 + s1, w + 5 + 300 + 5 * s1, g) = some (.inl (some (.int (iI (sk (srtN (upN F p (sp1 (F p) k)) m) (sp2 (F p) k) m)))), (mdW (aup h n v) y (alM (bgM M) A3), n + 1 + 1 + s1 + s2, w + 5 + 300 + 5 * s1 + 5 * s2, g)) := by rw [hA3]; exact pu
  have so2 : aE (d + 8) 203 [.ref y] (mdW (aup h n v) y (alM (bgM M) (nB m (upN F p (sp1 (F p) k)) X)), n + 1, w + 5, g) = some (.inl none, (mdW (aup h n v) y (alM (bgM M) (nB m (srtN (upN F p (sp1 (F p) k)) m) X)), n + 1 + 1 + s1, w + 5 + 300 + 5 * s1, g)) := so
  have ga : gI (some (aI .int 385 A3)) (iI 0) = some (iI (m + 1 : Nat)) := by rw [hA3]; exact gI_0 (by omega)
  have mm1 := fun A => md_0 (h := aup h n v) (y := y) (M := alM (bgM M) A)
  have mm2 : mdW (aup h n v) y (alM (bgM M) A3) (y + 1) = some (aI .int 385 A3) := md_1
  have dn := r_done (d := d + 1) (n := n + 1 + 1 + s1 + s2) (w := w + 5 + 300 + 5 * s1 + 5 * s2) (g := g) (h := aup h n v) (y := y) (M := alM (bgM M) A3) (t := iI (m + 1 : Nat)) hu hb hU
  refine ⟨s1 + s2, by omega, ?_⟩
  rw [← hA3]
  have hL : L (d + 8) 208 0 [some (.ref y), some (.int (iI p)), some (.int (iI k)), none] [] (mdW h y M, n, w, g) = some (.inl (some (.int (iI (m + 1 : Nat)))), (mdW (aup h n v) y (dnM (alM (bgM M) A3) u), n + 2 + (s1 + s2), w + 305 + 5 * (s1 + s2), g)) := by
    simp (disch := omega) only [r208_0, r208_1, r208_4, r208_5, r208_6, r208_9, r208_12, r208_13, r208_14, r208_17, md_0, bg, m0, ni, q1, kl_n, kl_i, kl_r, kl_z, kl_l, kl_d, catS_0, catS_c, cat_i, cat_l, cat_d, cat_r, cat_n, kC_r, kC_x, Option.bind_some, Option.toList_some, Option.toList_none, List.cons_append, List.nil_append, gB0, gB1, gB2, gB3, gB4, rvB, nI_iI, i0, i1, l0_, wr_s, aup_s, and_true, true_and, and_self, eq_self, if_true, if_false, Nat.zero_le, Nat.reduceAdd, Nat.reduceLeDiff, gN_I, gN_L, gN_P, bI_0, bI_ok, z0, z1, Bool.true_eq, Bool.false_eq_true, not_true_eq_false, not_false_eq_true]
    simp (disch := omega) only [r208_18, r208_19, r208_20, r208_21, r208_22, r208_25, r208_26, r208_27, r208_30, r208_31, r208_32, r208_35, r208_38, r208_39, r208_40, r208_43, r208_46, r208_47, r208_48, r208_51, r208_52, r208_53, r208_56, r208_57, r208_58, r208_60, r208_63, r208_64, r208_65, r208_68, m0, m1, g0, r_1 hA2 (show m ≤ 60 by omega) hp, r_end hA2 (show m ≤ 60 by omega) hp, iI_add, s_min, iI_sub, s_mis, q2, iI_eq, c1, kl_n, kl_i, kl_r, kl_z, kl_l, kl_d, catS_0, catS_c, cat_i, cat_l, cat_d, cat_r, cat_n, kC_r, kC_x, Option.bind_some, Option.toList_some, Option.toList_none, List.cons_append, List.nil_append, gB0, gB1, gB2, gB3, gB4, rvB, nI_iI, i0, i1, l0_, wr_s, aup_s, and_true, true_and, and_self, eq_self, if_true, if_false, Nat.zero_le, Nat.reduceAdd, Nat.reduceLeDiff, gN_I, gN_L, gN_P, bI_0, bI_ok, z0, z1, Bool.true_eq, Bool.false_eq_true, not_true_eq_false, not_false_eq_true]
    have k113 : L (d + 8) 208 69 [some (.ref y), some (.int (iI p)), some (.int (iI k)), none] [] (mdW h y (bgM M), n, w, g) = L (d + 8) 208 113 [some (.ref y), some (.int (iI p)), some (.int (iI k)), none] [.ref n] (mdW (aup h n v) y (bgM M), n + 1, w + 5, g) := by
      rw [hv]
      unfold n5
      simp (disch := omega) only [r208_69, r208_70, r208_72i, r208_72, r208_73, r208_74, r208_75, r208_76, r208_77, r208_80, r208_81i, r208_81, r208_82, r208_83, r208_84, r208_85i, r208_85, r208_86, r208_87, r208_88, r208_89, r208_92, r208_93, r208_94, r208_95i, r208_95, r208_96, r208_97, r208_98, r208_99, r208_100, r208_103, r208_104i, r208_104, r208_105, r208_106, r208_107, r208_108, r208_109, r208_112, e5, e6, m0, md_n hy, md_out hy, aup_s, aup_2, n5_0, n5_1, n5_2, n5_3, n5_4, r_0 hA2 (show m ≤ 60 by omega) hp, r_3 hA2 (show m ≤ 60 by omega) hp, r_4 hA2 (show m ≤ 60 by omega) hp, r_end hA2 (show m ≤ 60 by omega) hp, iI_sub, f1, kl_n, kl_i, kl_r, kl_z, kl_l, kl_d, catS_0, catS_c, cat_i, cat_l, cat_d, cat_r, cat_n, kC_r, kC_x, Option.bind_some, Option.toList_some, Option.toList_none, List.cons_append, List.nil_append, gB0, gB1, gB2, gB3, gB4, rvB, nI_iI, i0, i1, l0_, wr_s, aup_s, and_true, true_and, and_self, eq_self, if_true, if_false, Nat.zero_le, Nat.reduceAdd, Nat.reduceLeDiff, gN_I, gN_L, gN_P, bI_0, bI_ok, z0, z1, Bool.true_eq, Bool.false_eq_true, not_true_eq_false, not_false_eq_true]
    rw [k113]
    simp (disch := omega) only [r208_113, r208_114, r208_115, r208_116, r208_117, r208_118, r208_119, r208_120, r208_121, r208_124, r208_125, r208_128, r208_129, r208_132, r208_133, r208_134, r208_135, r208_138i, r208_138, r208_139, r208_140, r208_141, r208_144, r208_145, r208_146, r208_149, m0, r_1 hA2 (show m ≤ 60 by omega) hp, iI_sub, f2, nset, mm1, so2, pu2, mm2, ga, dn, kl_n, kl_i, kl_r, kl_z, kl_l, kl_d, catS_0, catS_c, cat_i, cat_l, cat_d, cat_r, cat_n, kC_r, kC_x, Option.bind_some, Option.toList_some, Option.toList_none, List.cons_append, List.nil_append, gB0, gB1, gB2, gB3, gB4, rvB, nI_iI, i0, i1, l0_, wr_s, aup_s, and_true, true_and, and_self, eq_self, if_true, if_false, Nat.zero_le, Nat.reduceAdd, Nat.reduceLeDiff, gN_I, gN_L, gN_P, bI_0, bI_ok, z0, z1, Bool.true_eq, Bool.false_eq_true, not_true_eq_false, not_false_eq_true]
    rw [show n + 1 + 1 + s1 + s2 = n + 2 + (s1 + s2) by omega, show w + 5 + 300 + 5 * s1 + 5 * s2 = w + 305 + 5 * (s1 + s2) by omega]
  rw [e208, hL, fin_mt hy]
theorem r_split_1 {p k : Int} {m : Nat} {F : Nat → Nat} {X : Nat → Int32} (hy : y + 531 ≤ n) (hA : M.2.1 = nB m F X) (hm : m ≤ 60) (b1 : -2147483648 ≤ p ∧ p < 2147483648) (hc : ¬ (0 ≤ p ∧ p < m)) : aE (d + 9) 208 [.ref y, .int (iI p), .int (iI k)] (mdW h y M, n, w, g) = some (.inl (some (.int (iI 0))), (mdW h y (rfM 1 (bgM M)), n, w, g)) := by
  have bg := r_begin (d := d + 7) (n := n) (w := w) (g := g) (h := h) (y := y) (M := M)
  have m0 := md_0 (h := h) (y := y) (M := bgM M)
  have ni := r_isNote (d := d + 6) (h := h) (r := (n, w, g)) (y := y) (M := bgM M) (p := p) hA hm b1
  have rf := r_refuse (d := d + 7) (h := h) (r := (n, w, g)) (y := y) (M := bgM M) (k := 1)
  have hL : L (d + 8) 208 0 [some (.ref y), some (.int (iI p)), some (.int (iI k)), none] [] (mdW h y M, n, w, g) = some (.inl (some (.int (iI 0))), (mdW h y (rfM 1 (bgM M)), n, w, g)) := by
    simp (disch := omega) only [r208_0, r208_1, r208_4, r208_5, r208_6, r208_9, r208_12, r208_13, r208_14, r208_17, md_0, bg, m0, ni, hc, rf, kl_n, kl_i, kl_r, kl_z, kl_l, kl_d, catS_0, catS_c, cat_i, cat_l, cat_d, cat_r, cat_n, kC_r, kC_x, Option.bind_some, Option.toList_some, Option.toList_none, List.cons_append, List.nil_append, gB0, gB1, gB2, gB3, gB4, rvB, nI_iI, i0, i1, l0_, wr_s, aup_s, and_true, true_and, and_self, eq_self, if_true, if_false, Nat.zero_le, Nat.reduceAdd, Nat.reduceLeDiff, gN_I, gN_L, gN_P, bI_0, bI_ok, z0, z1, Bool.true_eq, Bool.false_eq_true, not_true_eq_false, not_false_eq_true]
    rfl
  rw [e208, hL, fin_mm hy]
theorem r_split_2 {p m : Nat} {k : Int} {F : Nat → Nat} {X : Nat → Int32} (hy : y + 531 ≤ n) (hA : M.2.1 = nB m F X) (hm : m ≤ 60) (hp : p < m) (b2 : -2147483648 ≤ k ∧ k < 2147483648) (hk : ¬ ((cS (F p) : Int) < k ∧ k < (cS (F p) : Int) + cL (F p) ∧ 0 ≤ k ∧ k ≤ 9599)) : aE (d + 9) 208 [.ref y, .int (iI p), .int (iI k)] (mdW h y M, n, w, g) = some (.inl (some (.int (iI 0))), (mdW h y (rfM 2 (bgM M)), n, w, g)) := by
  have a2 := cS_lt (F p)
  have a3 := cL_lt (F p)
  have q1 : (0 : Int) ≤ p ∧ (p : Int) < m := by omega
  have q2 : ¬ ((cS (F p) : Int) + 1 ≤ k ∧ (k : Int) ≤ min 9600 ((cS (F p) : Int) + cL (F p)) - 1) := by omega
  have hA2 : (bgM M).2.1 = nB m F X := hA
  have bg := r_begin (d := d + 7) (n := n) (w := w) (g := g) (h := h) (y := y) (M := M)
  have m0 := md_0 (h := h) (y := y) (M := bgM M)
  have ni := r_isNote (d := d + 6) (h := h) (r := (n, w, g)) (y := y) (M := bgM M) (p := p) hA2 hm (by omega)
  have rf := r_refuse (d := d + 7) (h := h) (r := (n, w, g)) (y := y) (M := bgM M) (k := 2)
  have hL : L (d + 8) 208 0 [some (.ref y), some (.int (iI p)), some (.int (iI k)), none] [] (mdW h y M, n, w, g) = some (.inl (some (.int (iI 0))), (mdW h y (rfM 2 (bgM M)), n, w, g)) := by
    simp (disch := omega) only [r208_0, r208_1, r208_4, r208_5, r208_6, r208_9, r208_12, r208_13, r208_14, r208_17, md_0, bg, m0, ni, q1, kl_n, kl_i, kl_r, kl_z, kl_l, kl_d, catS_0, catS_c, cat_i, cat_l, cat_d, cat_r, cat_n, kC_r, kC_x, Option.bind_some, Option.toList_some, Option.toList_none, List.cons_append, List.nil_append, gB0, gB1, gB2, gB3, gB4, rvB, nI_iI, i0, i1, l0_, wr_s, aup_s, and_true, true_and, and_self, eq_self, if_true, if_false, Nat.zero_le, Nat.reduceAdd, Nat.reduceLeDiff, gN_I, gN_L, gN_P, bI_0, bI_ok, z0, z1, Bool.true_eq, Bool.false_eq_true, not_true_eq_false, not_false_eq_true]
    simp (disch := omega) only [r208_18, r208_19, r208_20, r208_21, r208_22, r208_25, r208_26, r208_27, r208_30, r208_31, r208_32, r208_35, r208_38, r208_39, r208_40, r208_43, r208_46, r208_47, r208_48, r208_51, m0, r_1 hA2 hm hp, r_end hA2 hm hp, iI_add, s_min, iI_sub, s_mis, q2, rf, kl_n, kl_i, kl_r, kl_z, kl_l, kl_d, catS_0, catS_c, cat_i, cat_l, cat_d, cat_r, cat_n, kC_r, kC_x, Option.bind_some, Option.toList_some, Option.toList_none, List.cons_append, List.nil_append, gB0, gB1, gB2, gB3, gB4, rvB, nI_iI, i0, i1, l0_, wr_s, aup_s, and_true, true_and, and_self, eq_self, if_true, if_false, Nat.zero_le, Nat.reduceAdd, Nat.reduceLeDiff, gN_I, gN_L, gN_P, bI_0, bI_ok, z0, z1, Bool.true_eq, Bool.false_eq_true, not_true_eq_false, not_false_eq_true]
    rfl
  rw [e208, hL, fin_mm hy]
theorem r_split_3 {p k : Nat} {F : Nat → Nat} {X : Nat → Int32} (hy : y + 531 ≤ n) (hA : M.2.1 = nB 60 F X) (hp : p < 60) (hk : cS (F p) < k ∧ k < cS (F p) + cL (F p) ∧ k ≤ 9599) : aE (d + 9) 208 [.ref y, .int (iI p), .int (iI k)] (mdW h y M, n, w, g) = some (.inl (some (.int (iI 0))), (mdW h y (rfM 3 (bgM M)), n, w, g)) := by
  have a2 := cS_lt (F p)
  have a3 := cL_lt (F p)
  have q1 : (0 : Int) ≤ p ∧ (p : Int) < ((60 : Nat) : Int) := by omega
  have q2 : (cS (F p) : Int) + 1 ≤ k ∧ (k : Int) ≤ min 9600 ((cS (F p) : Int) + cL (F p)) - 1 := by omega
  have hA2 : (bgM M).2.1 = nB 60 F X := hA
  have g0 : gI (some (aI .int 385 (nB 60 F X))) (iI 0) = some (iI ((60 : Nat) : Int)) := gI_0 (by omega)
  have c1 : ((60 : Nat) : Int) = 60 := rfl
  have bg := r_begin (d := d + 7) (n := n) (w := w) (g := g) (h := h) (y := y) (M := M)
  have m0 := md_0 (h := h) (y := y) (M := bgM M)
  have m1 : mdW h y (bgM M) (y + 1) = some (aI .int 385 (nB 60 F X)) := by rw [md_1]; exact congrArg (fun z => some (aI .int 385 z)) hA
  have ni := r_isNote (d := d + 6) (h := h) (r := (n, w, g)) (y := y) (M := bgM M) (p := p) hA2 (by omega) (by omega)
  have rf := r_refuse (d := d + 7) (h := h) (r := (n, w, g)) (y := y) (M := bgM M) (k := 3)
  have hL : L (d + 8) 208 0 [some (.ref y), some (.int (iI p)), some (.int (iI k)), none] [] (mdW h y M, n, w, g) = some (.inl (some (.int (iI 0))), (mdW h y (rfM 3 (bgM M)), n, w, g)) := by
    simp (disch := omega) only [r208_0, r208_1, r208_4, r208_5, r208_6, r208_9, r208_12, r208_13, r208_14, r208_17, md_0, bg, m0, ni, q1, kl_n, kl_i, kl_r, kl_z, kl_l, kl_d, catS_0, catS_c, cat_i, cat_l, cat_d, cat_r, cat_n, kC_r, kC_x, Option.bind_some, Option.toList_some, Option.toList_none, List.cons_append, List.nil_append, gB0, gB1, gB2, gB3, gB4, rvB, nI_iI, i0, i1, l0_, wr_s, aup_s, and_true, true_and, and_self, eq_self, if_true, if_false, Nat.zero_le, Nat.reduceAdd, Nat.reduceLeDiff, gN_I, gN_L, gN_P, bI_0, bI_ok, z0, z1, Bool.true_eq, Bool.false_eq_true, not_true_eq_false, not_false_eq_true]
    simp (disch := omega) only [r208_18, r208_19, r208_20, r208_21, r208_22, r208_25, r208_26, r208_27, r208_30, r208_31, r208_32, r208_35, r208_38, r208_39, r208_40, r208_43, r208_46, r208_47, r208_48, r208_51, r208_52, r208_53, r208_56, r208_57, r208_58, r208_60, r208_63, r208_64, r208_65, r208_68, m0, m1, g0, r_1 hA2 (Nat.le_refl 60) hp, r_end hA2 (Nat.le_refl 60) hp, iI_add, s_min, iI_sub, s_mis, q2, iI_eq, c1, rf, kl_n, kl_i, kl_r, kl_z, kl_l, kl_d, catS_0, catS_c, cat_i, cat_l, cat_d, cat_r, cat_n, kC_r, kC_x, Option.bind_some, Option.toList_some, Option.toList_none, List.cons_append, List.nil_append, gB0, gB1, gB2, gB3, gB4, rvB, nI_iI, i0, i1, l0_, wr_s, aup_s, and_true, true_and, and_self, eq_self, if_true, if_false, Nat.zero_le, Nat.reduceAdd, Nat.reduceLeDiff, gN_I, gN_L, gN_P, bI_0, bI_ok, z0, z1, Bool.true_eq, Bool.false_eq_true, not_true_eq_false, not_false_eq_true]
    rfl
  rw [e208, hL, fin_mm hy]
end
