/-! ===== the reference writes, removes, splits ===== -/
/-- refused, with a number -/
def rfM (k : Int) (M : Md) : Md := ((iI k, M.1.2), M.2)
/-- all numbers changed -/
def alM (M : Md) (A : Nat → Int32) : Md := (M.1, A, M.2.2)
theorem fin_mm {h : aHf} {y n n' w w' : Nat} {g : Nat × Nat} {M M' : Md} {o : aO} (hy : y + 531 ≤ n) : aFin true (mdW h y M, n, w, g) (some (o, (mdW h y M', n', w', g))) = some (o, (mdW h y M', n', w', g)) := fin_fr hy (fun _ _ => rfl)
theorem fin_mt {h : aHf} {y n n' w w' : Nat} {g : Nat × Nat} {M M' : Md} {o : aO} {v : aC} (hy : y + 531 ≤ n) : aFin true (mdW h y M, n, w, g) (some (o, (mdW (aup h n v) y M', n', w', g))) = some (o, (mdW h y M', n', w', g)) := fin_fr hy (fun q hq => aup_o (by omega))
section
variable {F : Nat → Int32} {v : Int32}
theorem n5_0 : sI (some (aI .int 5 F)) (iI 0) v = some (aI .int 5 (upd F 0 v)) := sI_I (j := 0) (by omega) (by omega) (by omega)
theorem n5_1 : sI (some (aI .int 5 F)) (iI 1) v = some (aI .int 5 (upd F 1 v)) := sI_I (j := 1) (by omega) (by omega) (by omega)
theorem n5_2 : sI (some (aI .int 5 F)) (iI 2) v = some (aI .int 5 (upd F 2 v)) := sI_I (j := 2) (by omega) (by omega) (by omega)
theorem n5_3 : sI (some (aI .int 5 F)) (iI 3) v = some (aI .int 5 (upd F 3 v)) := sI_I (j := 3) (by omega) (by omega) (by omega)
theorem n5_4 : sI (some (aI .int 5 F)) (iI 4) v = some (aI .int 5 (upd F 4 v)) := sI_I (j := 4) (by omega) (by omega) (by omega)
end
/-- five numbers -/
def n5 (a b c e f : Int32) : Nat → Int32 := upd (upd (upd (upd (upd (fun _ => iI 0) 0 a) 1 b) 2 c) 3 e) 4 f
theorem n5_c {c : Nat} : ∀ j, j < 5 → n5 (iI (cT c)) (iI (cS c)) (iI (cL c)) (iI (cP c)) (iI (cF c)) (0 + j) = iI (cFact c j) := fun j hj => by
  obtain rfl | rfl | rfl | rfl | rfl : j = 0 ∨ j = 1 ∨ j = 2 ∨ j = 3 ∨ j = 4 := by omega
  all_goals rfl
theorem nB_set {m i j : Nat} {F : Nat → Nat} {X : Nat → Int32} {c : Nat} (hi : i < m) (hj : j < 5) (hc : ∀ k, k < 5 → k ≠ j → cFact c k = cFact (F i) k) : upd (nB m F X) (1 + 5 * i + j) (iI (cFact c j)) = nB m (upN F i c) X := by
  funext k
  unfold upd nB upN
  by_cases e0 : k = 0
  · rw [if_neg (by omega), if_pos e0, if_pos e0]
  · rw [if_neg e0, if_neg e0]
    by_cases e1 : (k - 1) / 5 < m
    · rw [if_pos e1, if_pos e1]
      by_cases e2 : (k - 1) / 5 = i
      · rw [if_pos e2]
        by_cases e3 : k = 1 + 5 * i + j
        · rw [if_pos e3, show (k - 1) % 5 = j by omega]
        · rw [if_neg e3, e2, hc _ (by omega) (by omega)]
      · rw [if_neg (by omega), if_neg e2]
    · rw [if_neg (by omega), if_neg e1, if_neg e1]
section
variable {d n w : Nat} {g : Nat × Nat} {h : aHf} {y : Nat} {M : Md}
theorem r_write {t k l p f m u : Nat} {F : Nat → Nat} {X : Nat → Int32} (hy : y + 531 ≤ n) (hA : M.2.1 = nB m F X) (hm : m < 60) (hF : ∀ i, cOk (F i)) (ht : t ≤ 5) (hk : k ≤ 9599) (hl : 1 ≤ l ∧ l ≤ 960) (hp : p ≤ 127) (hf : 1 ≤ f ∧ f ≤ 127) (hu : M.1.2.1 = iI u) (hb : u ≤ 20) (hU : ∀ i, i < 21 → M.2.2.2.1.1 i < 21) :
    ∃ s, s ≤ m + 1 - sk F (cO t k p l f) m ∧ aE (d + 9) 206 [.ref y, .int (iI t), .int (iI k), .int (iI l), .int (iI p), .int (iI f)] (mdW h y M, n, w, g) = some (.inl (some (.int (iI (sk F (cO t k p l f) m)))), (mdW h y (dnM (alM (bgM M) (nB (m + 1) (insN F (sk F (cO t k p l f) m) m (cO t k p l f)) X)) u), n + 1 + s, w + 5 + 5 * s, g)) := by
  have q1 : (0 : Int) ≤ t ∧ (t : Int) ≤ 5 := by omega
  have q2 : (0 : Int) ≤ k ∧ (k : Int) ≤ 9599 := by omega
  have q3 : (1 : Int) ≤ l ∧ (l : Int) ≤ 960 := by omega
  have q4 : (0 : Int) ≤ p ∧ (p : Int) ≤ 127 := by omega
  have q5 : (1 : Int) ≤ f ∧ (f : Int) ≤ 127 := by omega
  have hc : cOk (cO t k p l f) := cO_ok (by omega) (by omega) (by omega) (by omega) (by omega)
  have a1 : cT (cO t k p l f) = t := by unfold cT cO; omega
  have a2 : cS (cO t k p l f) = k := by unfold cS cO; omega
  have a3 : cP (cO t k p l f) = l ∨ True := Or.inr trivial
  have e5 : (iI 5).toNatClampNeg = 5 := by decide
  have e6 : ¬ (iI 5 < iI 0 ∨ 60000000 < 5) := by decide
  have g0 : gI (some (aI .int 385 (nB m F X))) (iI 0) = some (iI m) := gI_0 (by omega)
  have c1 : ¬ (m : Int) = 60 := by omega
  obtain ⟨s, s1, hp2⟩ := r_put (d := d + 6) (n := n + 1) (w := w + 5) (g := g) (h := aup h n (aI .int 5 (n5 (iI t) (iI k) (iI l) (iI p) (iI f)))) (y := y) (M := bgM M) (p := n) (a := 0) (N := 5) (c := cO t k p l f) (m := m) (F := F) (R := X) (f := n5 (iI t) (iI k) (iI l) (iI p) (iI f)) (by omega) aup_s hy (by omega) (by omega) (fun j hj => by
    have z := n5_c (c := cO t k p l f) j hj
    rw [show cT (cO t k p l f) = t from cT_O (by omega) (by omega) (by omega) (by omega), show cS (cO t k p l f) = k from cS_O (by omega) (by omega) (by omega) (by omega), show cL (cO t k p l f) = l from cL_O (by omega) (by omega), show cP (cO t k p l f) = p from cP_O (by omega) (by omega) (by omega), show cF (cO t k p l f) = f from cF_O (by omega)] at z
    exact z) hc hF hm hA
  rw [show ((0 : Nat) : Int) = 0 from rfl] at hp2
  have dn := r_done (d := d + 1) (n := n + 1 + s) (w := w + 5 + 5 * s) (g := g) (h := aup h n (aI .int 5 (n5 (iI t) (iI k) (iI l) (iI p) (iI f)))) (y := y) (M := alM (bgM M) (nB (m + 1) (insN F (sk F (cO t k p l f) m) m (cO t k p l f)) X)) (t := iI (sk F (cO t k p l f) m)) hu hb hU
  have bg := r_begin (d := d + 7) (n := n) (w := w) (g := g) (h := h) (y := y) (M := M)
  have m0 := md_0 (h := h) (y := y) (M := bgM M)
  have m1 : mdW h y (bgM M) (y + 1) = some (aI .int 385 (nB m F X)) := by rw [md_1]; exact congrArg (fun z => some (aI .int 385 z)) hA
  have ms0 := fun v => md_0 (h := aup h n v) (y := y) (M := bgM M)
  have ms1 := fun v => md_0 (h := aup h n v) (y := y) (M := alM (bgM M) (nB (m + 1) (insN F (sk F (cO t k p l f) m) m (cO t k p l f)) X))
  refine ⟨s, s1, ?_⟩
  have hL : L (d + 8) 206 0 [some (.ref y), some (.int (iI t)), some (.int (iI k)), some (.int (iI l)), some (.int (iI p)), some (.int (iI f)), none] [] (mdW h y M, n, w, g) = some (.inl (some (.int (iI (sk F (cO t k p l f) m)))), (mdW (aup h n (aI .int 5 (n5 (iI t) (iI k) (iI l) (iI p) (iI f)))) y (dnM (alM (bgM M) (nB (m + 1) (insN F (sk F (cO t k p l f) m) m (cO t k p l f)) X)) u), n + 1 + s, w + 5 + 5 * s, g)) := by
    simp (disch := omega) only [r206_0, r206_1, r206_4, r206_5, r206_8, r206_11, r206_12, r206_13, r206_16, r206_19, r206_22, r206_23, r206_24, r206_27, r206_30, r206_33, r206_35, r206_36, r206_38, r206_41, r206_44, r206_46, r206_47, r206_49, r206_52, r206_55, r206_56, r206_57, r206_60, md_0, bg, s_mTrack, q1, s_mis, q2, q3, q4, q5, kl_n, kl_i, kl_r, kl_z, kl_l, kl_d, catS_0, catS_c, cat_i, cat_l, cat_d, cat_r, cat_n, kC_r, kC_x, Option.bind_some, Option.toList_some, Option.toList_none, List.cons_append, List.nil_append, gB0, gB1, gB2, gB3, gB4, rvB, nI_iI, i0, i1, l0_, wr_s, aup_s, and_true, true_and, and_self, eq_self, if_true, if_false, Nat.zero_le, Nat.reduceAdd, Nat.reduceLeDiff, gN_I, gN_L, gN_P, bI_0, bI_ok, z0, z1, Bool.true_eq, Bool.false_eq_true, not_true_eq_false, not_false_eq_true]
    simp (disch := omega) only [r206_61, r206_62, r206_65, r206_66, r206_67, r206_69, r206_72, r206_73, r206_74, r206_77, r206_78, r206_79, r206_81i, r206_81, r206_82, r206_83, r206_84, r206_85i, r206_85, r206_86, r206_87, r206_88, r206_89i, r206_89, r206_90, r206_91, r206_92, r206_93i, r206_93, r206_94, r206_95, r206_97, r206_98i, r206_98, r206_99, r206_100, r206_102, r206_103, m0, m1, g0, iI_eq, c1, e5, e6, aup_s, n5_0, n5_1, n5_2, n5_3, n5_4, aup_2, kl_n, kl_i, kl_r, kl_z, kl_l, kl_d, catS_0, catS_c, cat_i, cat_l, cat_d, cat_r, cat_n, kC_r, kC_x, Option.bind_some, Option.toList_some, Option.toList_none, List.cons_append, List.nil_append, gB0, gB1, gB2, gB3, gB4, rvB, nI_iI, i0, i1, l0_, wr_s, aup_s, and_true, true_and, and_self, eq_self, if_true, if_false, Nat.zero_le, Nat.reduceAdd, Nat.reduceLeDiff, gN_I, gN_L, gN_P, bI_0, bI_ok, z0, z1, Bool.true_eq, Bool.false_eq_true, not_true_eq_false, not_false_eq_true]
    rw [md_n hy]
    show L (d + 8) 206 105 _ _ (mdW (aup h n (aI .int 5 (n5 (iI t) (iI k) (iI l) (iI p) (iI f)))) y (bgM M), _) = _
    have hp3 : aE (d + 8) 201 [.ref y, .ref n, .int (iI 0)] (mdW (aup h n (aI .int 5 (n5 (iI t) (iI k) (iI l) (iI p) (iI f)))) y (bgM M), n + 1, w + 5, g) = some (.inl (some (.int (iI (sk F (cO t k p l f) m)))), (mdW (aup h n (aI .int 5 (n5 (iI t) (iI k) (iI l) (iI p) (iI f)))) y (alM (bgM M) (nB (m + 1) (insN F (sk F (cO t k p l f) m) m (cO t k p l f)) X)), n + 1 + s, w + 5 + 5 * s, g)) := hp2
    simp (disch := omega) only [r206_105, r206_106, r206_107, r206_109, r206_110, r206_113, r206_116, ms0, ms1, hp3, dn, kl_n, kl_i, kl_r, kl_z, kl_l, kl_d, catS_0, catS_c, cat_i, cat_l, cat_d, cat_r, cat_n, kC_r, kC_x, Option.bind_some, Option.toList_some, Option.toList_none, List.cons_append, List.nil_append, gB0, gB1, gB2, gB3, gB4, rvB, nI_iI, i0, i1, l0_, wr_s, aup_s, and_true, true_and, and_self, eq_self, if_true, if_false, Nat.zero_le, Nat.reduceAdd, Nat.reduceLeDiff, gN_I, gN_L, gN_P, bI_0, bI_ok, z0, z1, Bool.true_eq, Bool.false_eq_true, not_true_eq_false, not_false_eq_true]
  rw [e206, hL, fin_mt hy]
theorem r_write_1 {t k l p f : Int} (hy : y + 531 ≤ n) (b1 : -2147483648 ≤ t ∧ t < 2147483648) (b2 : -2147483648 ≤ k ∧ k < 2147483648) (b3 : -2147483648 ≤ l ∧ l < 2147483648) (b4 : -2147483648 ≤ p ∧ p < 2147483648) (b5 : -2147483648 ≤ f ∧ f < 2147483648)
    (hc : ¬ ((0 ≤ t ∧ t ≤ 5) ∧ (0 ≤ k ∧ k ≤ 9599) ∧ (1 ≤ l ∧ l ≤ 960) ∧ (0 ≤ p ∧ p ≤ 127) ∧ (1 ≤ f ∧ f ≤ 127))) : aE (d + 9) 206 [.ref y, .int (iI t), .int (iI k), .int (iI l), .int (iI p), .int (iI f)] (mdW h y M, n, w, g) = some (.inl (some (.int (iI 0))), (mdW h y (rfM 1 (bgM M)), n, w, g)) := by
  have bg := r_begin (d := d + 7) (n := n) (w := w) (g := g) (h := h) (y := y) (M := M)
  have m0 := md_0 (h := h) (y := y) (M := bgM M)
  have rf := r_refuse (d := d + 7) (h := h) (r := (n, w, g)) (y := y) (M := bgM M) (k := 1)
  have hL : L (d + 8) 206 0 [some (.ref y), some (.int (iI t)), some (.int (iI k)), some (.int (iI l)), some (.int (iI p)), some (.int (iI f)), none] [] (mdW h y M, n, w, g) = some (.inl (some (.int (iI 0))), (mdW h y (rfM 1 (bgM M)), n, w, g)) := by
    simp (disch := omega) only [r206_0, r206_1, r206_4, r206_5, r206_8, r206_11, r206_12, r206_13, r206_16, r206_19, r206_22, r206_23, r206_24, r206_27, r206_30, r206_33, r206_35, r206_36, r206_38, r206_41, r206_44, r206_46, r206_47, r206_49, r206_52, md_0, bg, s_mTrack, s_mis, ite_not, kl_n, kl_i, kl_r, kl_z, kl_l, kl_d, catS_0, catS_c, cat_i, cat_l, cat_d, cat_r, cat_n, kC_r, kC_x, Option.bind_some, Option.toList_some, Option.toList_none, List.cons_append, List.nil_append, gB0, gB1, gB2, gB3, gB4, rvB, nI_iI, i0, i1, l0_, wr_s, aup_s, and_true, true_and, and_self, eq_self, if_true, if_false, Nat.zero_le, Nat.reduceAdd, Nat.reduceLeDiff, gN_I, gN_L, gN_P, bI_0, bI_ok, z0, z1, Bool.true_eq, Bool.false_eq_true, not_true_eq_false, not_false_eq_true]
    have rr : L (d + 8) 206 55 [some (.ref y), some (.int (iI t)), some (.int (iI k)), some (.int (iI l)), some (.int (iI p)), some (.int (iI f)), none] [] (mdW h y (bgM M), n, w, g) = some (.inl (some (.int (iI 0))), (mdW h y (rfM 1 (bgM M)), n, w, g)) := by
      simp (disch := omega) only [r206_55, r206_56, r206_57, r206_60, m0, rf, kl_n, kl_i, kl_r, kl_z, kl_l, kl_d, catS_0, catS_c, cat_i, cat_l, cat_d, cat_r, cat_n, kC_r, kC_x, Option.bind_some, Option.toList_some, Option.toList_none, List.cons_append, List.nil_append, gB0, gB1, gB2, gB3, gB4, rvB, nI_iI, i0, i1, l0_, wr_s, aup_s, and_true, true_and, and_self, eq_self, if_true, if_false, Nat.zero_le, Nat.reduceAdd, Nat.reduceLeDiff, gN_I, gN_L, gN_P, bI_0, bI_ok, z0, z1, Bool.true_eq, Bool.false_eq_true, not_true_eq_false, not_false_eq_true]
      rfl
    rw [rr]
    repeat' split
    all_goals first
      | rfl
      | (exfalso; omega)
  rw [e206, hL, fin_mm hy]
theorem r_write_2 {t k l p f : Nat} {F : Nat → Nat} {X : Nat → Int32} (hy : y + 531 ≤ n) (hA : M.2.1 = nB 60 F X) (ht : t ≤ 5) (hk : k ≤ 9599) (hl : 1 ≤ l ∧ l ≤ 960) (hp : p ≤ 127) (hf : 1 ≤ f ∧ f ≤ 127) : aE (d + 9) 206 [.ref y, .int (iI t), .int (iI k), .int (iI l), .int (iI p), .int (iI f)] (mdW h y M, n, w, g) = some (.inl (some (.int (iI 0))), (mdW h y (rfM 2 (bgM M)), n, w, g)) := by
  have q1 : (0 : Int) ≤ t ∧ (t : Int) ≤ 5 := by omega
  have q2 : (0 : Int) ≤ k ∧ (k : Int) ≤ 9599 := by omega
  have q3 : (1 : Int) ≤ l ∧ (l : Int) ≤ 960 := by omega
  have q4 : (0 : Int) ≤ p ∧ (p : Int) ≤ 127 := by omega
  have q5 : (1 : Int) ≤ f ∧ (f : Int) ≤ 127 := by omega
  have g0 : gI (some (aI .int 385 (nB 60 F X))) (iI 0) = some (iI ((60 : Nat) : Int)) := gI_0 (by omega)
  have c1 : ((60 : Nat) : Int) = 60 := rfl
  have bg := r_begin (d := d + 7) (n := n) (w := w) (g := g) (h := h) (y := y) (M := M)
  have m0 := md_0 (h := h) (y := y) (M := bgM M)
  have m1 : mdW h y (bgM M) (y + 1) = some (aI .int 385 (nB 60 F X)) := by rw [md_1]; exact congrArg (fun z => some (aI .int 385 z)) hA
  have rf := r_refuse (d := d + 7) (h := h) (r := (n, w, g)) (y := y) (M := bgM M) (k := 2)
  have hL : L (d + 8) 206 0 [some (.ref y), some (.int (iI t)), some (.int (iI k)), some (.int (iI l)), some (.int (iI p)), some (.int (iI f)), none] [] (mdW h y M, n, w, g) = some (.inl (some (.int (iI 0))), (mdW h y (rfM 2 (bgM M)), n, w, g)) := by
    simp (disch := omega) only [r206_0, r206_1, r206_4, r206_5, r206_8, r206_11, r206_12, r206_13, r206_16, r206_19, r206_22, r206_23, r206_24, r206_27, r206_30, r206_33, r206_35, r206_36, r206_38, r206_41, r206_44, r206_46, r206_47, r206_49, r206_52, r206_55, r206_56, r206_57, r206_60, md_0, bg, s_mTrack, q1, s_mis, q2, q3, q4, q5, kl_n, kl_i, kl_r, kl_z, kl_l, kl_d, catS_0, catS_c, cat_i, cat_l, cat_d, cat_r, cat_n, kC_r, kC_x, Option.bind_some, Option.toList_some, Option.toList_none, List.cons_append, List.nil_append, gB0, gB1, gB2, gB3, gB4, rvB, nI_iI, i0, i1, l0_, wr_s, aup_s, and_true, true_and, and_self, eq_self, if_true, if_false, Nat.zero_le, Nat.reduceAdd, Nat.reduceLeDiff, gN_I, gN_L, gN_P, bI_0, bI_ok, z0, z1, Bool.true_eq, Bool.false_eq_true, not_true_eq_false, not_false_eq_true]
    simp (disch := omega) only [r206_61, r206_62, r206_65, r206_66, r206_67, r206_69, r206_72, r206_73, r206_74, r206_77, m0, m1, g0, iI_eq, c1, rf, kl_n, kl_i, kl_r, kl_z, kl_l, kl_d, catS_0, catS_c, cat_i, cat_l, cat_d, cat_r, cat_n, kC_r, kC_x, Option.bind_some, Option.toList_some, Option.toList_none, List.cons_append, List.nil_append, gB0, gB1, gB2, gB3, gB4, rvB, nI_iI, i0, i1, l0_, wr_s, aup_s, and_true, true_and, and_self, eq_self, if_true, if_false, Nat.zero_le, Nat.reduceAdd, Nat.reduceLeDiff, gN_I, gN_L, gN_P, bI_0, bI_ok, z0, z1, Bool.true_eq, Bool.false_eq_true, not_true_eq_false, not_false_eq_true]
    rfl
  rw [e206, hL, fin_mm hy]
theorem r_remove {p m u : Nat} {F : Nat → Nat} {X : Nat → Int32} (hy : y + 531 ≤ n) (hA : M.2.1 = nB m F X) (hm : m ≤ 60) (hp : p < m) (hu : M.1.2.1 = iI u) (hb : u ≤ 20) (hU : ∀ i, i < 21 → M.2.2.2.1.1 i < 21) :
    aE (d + 9) 207 [.ref y, .int (iI p)] (mdW h y M, n, w, g) = some (.inl (some (.int (iI (m - 1 : Nat)))), (mdW h y (dnM (alM (bgM M) (nB (m - 1) (dlN F p (m - 1)) (tkX m X))) u), n, w, g)) := by
  have bg := r_begin (d := d + 7) (n := n) (w := w) (g := g) (h := h) (y := y) (M := M)
  have m0 := md_0 (h := h) (y := y) (M := bgM M)
  have q1 : (0 : Int) ≤ p ∧ (p : Int) < m := by omega
  have ni := r_isNote (d := d + 6) (h := h) (r := (n, w, g)) (y := y) (M := bgM M) (p := p) hA hm (by omega)
  have tk : aE (d + 8) 202 [.ref y, .int (iI p)] (mdW h y (bgM M), n, w, g) = some (.inl none, (mdW h y (alM (bgM M) (nB (m - 1) (dlN F p (m - 1)) (tkX m X))), n, w, g)) := r_take (d := d + 5) (n := n) (w := w) (g := g) (h := h) (y := y) (M := bgM M) hp hm hA
  have dn := r_done (d := d + 1) (n := n) (w := w) (g := g) (h := h) (y := y) (M := alM (bgM M) (nB (m - 1) (dlN F p (m - 1)) (tkX m X))) (t := iI (m - 1 : Nat)) hu hb hU
  have m2 := md_0 (h := h) (y := y) (M := alM (bgM M) (nB (m - 1) (dlN F p (m - 1)) (tkX m X)))
  have m3 : mdW h y (alM (bgM M) (nB (m - 1) (dlN F p (m - 1)) (tkX m X))) (y + 1) = some (aI .int 385 (nB (m - 1) (dlN F p (m - 1)) (tkX m X))) := md_1
  have g0 : gI (some (aI .int 385 (nB (m - 1) (dlN F p (m - 1)) (tkX m X)))) (iI 0) = some (iI (m - 1 : Nat)) := gI_0 (by omega)
  have hL : L (d + 8) 207 0 [some (.ref y), some (.int (iI p))] [] (mdW h y M, n, w, g) = some (.inl (some (.int (iI (m - 1 : Nat)))), (mdW h y (dnM (alM (bgM M) (nB (m - 1) (dlN F p (m - 1)) (tkX m X))) u), n, w, g)) := by
    simp (disch := omega) only [r207_0, r207_1, r207_4, r207_5, r207_6, r207_9, r207_12, r207_13, r207_14, r207_17, md_0, bg, m0, ni, q1, kl_n, kl_i, kl_r, kl_z, kl_l, kl_d, catS_0, catS_c, cat_i, cat_l, cat_d, cat_r, cat_n, kC_r, kC_x, Option.bind_some, Option.toList_some, Option.toList_none, List.cons_append, List.nil_append, gB0, gB1, gB2, gB3, gB4, rvB, nI_iI, i0, i1, l0_, wr_s, aup_s, and_true, true_and, and_self, eq_self, if_true, if_false, Nat.zero_le, Nat.reduceAdd, Nat.reduceLeDiff, gN_I, gN_L, gN_P, bI_0, bI_ok, z0, z1, Bool.true_eq, Bool.false_eq_true, not_true_eq_false, not_false_eq_true]
    simp (disch := omega) only [r207_18, r207_19, r207_20, r207_23, r207_24, r207_25, r207_28, r207_29, r207_30, r207_33, m0, tk, m2, m3, g0, dn, kl_n, kl_i, kl_r, kl_z, kl_l, kl_d, catS_0, catS_c, cat_i, cat_l, cat_d, cat_r, cat_n, kC_r, kC_x, Option.bind_some, Option.toList_some, Option.toList_none, List.cons_append, List.nil_append, gB0, gB1, gB2, gB3, gB4, rvB, nI_iI, i0, i1, l0_, wr_s, aup_s, and_true, true_and, and_self, eq_self, if_true, if_false, Nat.zero_le, Nat.reduceAdd, Nat.reduceLeDiff, gN_I, gN_L, gN_P, bI_0, bI_ok, z0, z1, Bool.true_eq, Bool.false_eq_true, not_true_eq_false, not_false_eq_true]
  rw [e207, hL, fin_mm hy]
theorem r_remove_1 {p : Int} {m : Nat} {F : Nat → Nat} {X : Nat → Int32} (hy : y + 531 ≤ n) (hA : M.2.1 = nB m F X) (hm : m ≤ 60) (b1 : -2147483648 ≤ p ∧ p < 2147483648) (hc : ¬ (0 ≤ p ∧ p < m)) : aE (d + 9) 207 [.ref y, .int (iI p)] (mdW h y M, n, w, g) = some (.inl (some (.int (iI 0))), (mdW h y (rfM 1 (bgM M)), n, w, g)) := by
  have bg := r_begin (d := d + 7) (n := n) (w := w) (g := g) (h := h) (y := y) (M := M)
  have m0 := md_0 (h := h) (y := y) (M := bgM M)
  have ni := r_isNote (d := d + 6) (h := h) (r := (n, w, g)) (y := y) (M := bgM M) (p := p) hA hm b1
  have rf := r_refuse (d := d + 7) (h := h) (r := (n, w, g)) (y := y) (M := bgM M) (k := 1)
  have hL : L (d + 8) 207 0 [some (.ref y), some (.int (iI p))] [] (mdW h y M, n, w, g) = some (.inl (some (.int (iI 0))), (mdW h y (rfM 1 (bgM M)), n, w, g)) := by
    simp (disch := omega) only [r207_0, r207_1, r207_4, r207_5, r207_6, r207_9, r207_12, r207_13, r207_14, r207_17, md_0, bg, m0, ni, hc, rf, kl_n, kl_i, kl_r, kl_z, kl_l, kl_d, catS_0, catS_c, cat_i, cat_l, cat_d, cat_r, cat_n, kC_r, kC_x, Option.bind_some, Option.toList_some, Option.toList_none, List.cons_append, List.nil_append, gB0, gB1, gB2, gB3, gB4, rvB, nI_iI, i0, i1, l0_, wr_s, aup_s, and_true, true_and, and_self, eq_self, if_true, if_false, Nat.zero_le, Nat.reduceAdd, Nat.reduceLeDiff, gN_I, gN_L, gN_P, bI_0, bI_ok, z0, z1, Bool.true_eq, Bool.false_eq_true, not_true_eq_false, not_false_eq_true]
    rfl
  rw [e207, hL, fin_mm hy]
end
