/-! ===== the reference transposes, weighs ===== -/
/-- one number of a note changed -/
theorem mp_set {m i j : Nat} {F gg : Nat → Nat} {X : Nat → Int32} (hi : i < m) (hj : j < 5) (hc : ∀ k, k < 5 → k ≠ j → cFact (gg (F i)) k = cFact (F i) k) : upd (nB m (mapN F gg i) X) (1 + 5 * i + j) (iI (cFact (gg (F i)) j)) = nB m (mapN F gg (i + 1)) X := by
  rw [nB_set (c := gg (F i)) hi hj (fun k h1 h2 => by rw [mapN_at, hc k h1 h2]), mapN_s]
theorem tpG_f {t v u b : Int} {c : Nat} (hc : cOk c) (h : cIn c t v u) (hb : 0 ≤ (cP c : Int) + b ∧ (cP c : Int) + b ≤ 127) : cOk (tpG t v u b c) ∧ cT (tpG t v u b c) = cT c ∧ cS (tpG t v u b c) = cS c ∧ cL (tpG t v u b c) = cL c ∧ cP (tpG t v u b c) = ((cP c : Int) + b).toNat ∧ cF (tpG t v u b c) = cF c := by
  have a1 := cT_lt hc
  have a2 := cS_lt c
  have a3 := cL_lt c
  have a5 := cF_lt c
  unfold tpG
  rw [if_pos h]
  exact ⟨cO_ok a1 a2 (by omega) a3 a5, cT_O a2 (by omega) a3 a5, cS_O a2 (by omega) a3 a5, cL_O a3 a5, cP_O (by omega) a3 a5, cF_O a5⟩
theorem wgG_f {t v u : Int} {p c : Nat} (hc : cOk c) (h : cIn c t v u) : cT (wgG t v u p c) = cT c ∧ cS (wgG t v u p c) = cS c ∧ cL (wgG t v u p c) = cL c ∧ cP (wgG t v u p c) = cP c ∧ cF (wgG t v u p c) = max 1 (min 127 (cF c * p / 100)) := by
  have a1 := cT_lt hc
  have a2 := cS_lt c
  have a3 := cL_lt c
  have a4 := cP_lt c
  unfold wgG
  rw [if_pos h]
  generalize cF c * p / 100 = z
  exact ⟨cT_O a2 a4 a3 (by omega), cS_O a2 a4 a3 (by omega), cL_O a3 (by omega), cP_O a4 a3 (by omega), cF_O (by omega)⟩
section
variable {d n w : Nat} {g : Nat × Nat} {h : aHf} {r : Nat × Nat × Nat × Nat} {y : Nat} {M : Md}
theorem tr_37 {t v u b : Int} {m : Nat} {F : Nat → Nat} {X : Nat → Int32} (hA : M.2.1 = nB m F X) (hm : m ≤ 60) (hF : ∀ i, cOk (F i)) (hr : rgOk t v u) (hb : -127 ≤ b ∧ b ≤ 127) : ∀ s i : Nat, i + s = m → (∀ j, j < i → tpOk t v u b (F j)) →
    ((∀ j, j < m → tpOk t v u b (F j)) ∧ L (d + 2) 209 37 [some (.ref y), some (.int (iI t)), some (.int (iI v)), some (.int (iI u)), some (.int (iI b)), some (.int (iI (cntP (inB4 t v u) F i))), some (.int (iI i))] [] (mdW h y M, r) = L (d + 2) 209 97 [some (.ref y), some (.int (iI t)), some (.int (iI v)), some (.int (iI u)), some (.int (iI b)), some (.int (iI (cntP (inB4 t v u) F m))), some (.int (iI m))] [] (mdW h y M, r)) ∨
    ((¬ ∀ j, j < m → tpOk t v u b (F j)) ∧ L (d + 2) 209 37 [some (.ref y), some (.int (iI t)), some (.int (iI v)), some (.int (iI u)), some (.int (iI b)), some (.int (iI (cntP (inB4 t v u) F i))), some (.int (iI i))] [] (mdW h y M, r) = some (.inl (some (.int (iI 0))), (mdW h y (rfM 2 M), r))) := by
  have g0 : gI (some (aI .int 385 (nB m F X))) (iI 0) = some (iI m) := gI_0 (by omega)
  intro s
  induction s with
  | zero =>
    intro i hi hok
    obtain rfl : i = m := by omega
    refine Or.inl ⟨hok, ?_⟩
    rw [r209_37]
    simp (disch := omega) only [r209_39, r209_40, r209_43, r209_44, r209_45, md_0, md_1, hA, g0, iI_le, Int.le_refl, kl_n, kl_i, kl_r, kl_z, kl_l, kl_d, catS_0, catS_c, cat_i, cat_l, cat_d, cat_r, cat_n, kC_r, kC_x, Option.bind_some, Option.toList_some, Option.toList_none, List.cons_append, List.nil_append, gB0, gB1, gB2, gB3, gB4, rvB, nI_iI, i0, i1, l0_, wr_s, aup_s, and_true, true_and, and_self, eq_self, if_true, if_false, Nat.zero_le, Nat.reduceAdd, Nat.reduceLeDiff, gN_I, gN_L, gN_P, bI_0, bI_ok, z0, z1, Bool.true_eq, Bool.false_eq_true, not_true_eq_false, not_false_eq_true]
  | succ s ih =>
    intro i hi hok
    have him : i < m := by omega
    have c1 : ¬ (m : Int) ≤ i := by omega
    have e1 : (i : Int) + 1 = ((i + 1 : Nat) : Int) := by omega
    have e2 : ((cntP (inB4 t v u) F i : Nat) : Int) + 1 = ((cntP (inB4 t v u) F i + 1 : Nat) : Int) := by omega
    have a4 := cP_lt (F i)
    by_cases q : cIn (F i) t v u
    · have qT := eq_true q
      have b4 : inB4 t v u (F i) = true := decide_eq_true q
      by_cases q2 : 0 ≤ (cP (F i) : Int) + b ∧ (cP (F i) : Int) + b ≤ 127
      · have q2T := eq_true q2
        have h9 := ih (i + 1) (by omega) (fun j hj => by
          by_cases z : j = i
          · rw [z]
            exact fun _ => q2
          · exact hok j (by omega))
        rw [cntP_t b4] at h9
        have st : L (d + 2) 209 37 [some (.ref y), some (.int (iI t)), some (.int (iI v)), some (.int (iI u)), some (.int (iI b)), some (.int (iI (cntP (inB4 t v u) F i))), some (.int (iI i))] [] (mdW h y M, r) = L (d + 2) 209 37 [some (.ref y), some (.int (iI t)), some (.int (iI v)), some (.int (iI u)), some (.int (iI b)), some (.int (iI (cntP (inB4 t v u) F i + 1 : Nat))), some (.int (iI (i + 1 : Nat)))] [] (mdW h y M, r) := by
          rw [r209_37]
          simp (disch := omega) only [r209_39, r209_40, r209_43, r209_44, r209_45, r209_48, r209_49, r209_51, r209_52, r209_53, r209_54, r209_57, r209_60, r209_63, r209_64, r209_66, r209_67, r209_70, r209_72, r209_73, r209_74, r209_76, r209_79, r209_82, r209_83, r209_84, r209_87, r209_88, r209_91, r209_94, md_0, md_1, hA, g0, iI_le, c1, r_isIn hA hm him hF hr, qT, r_3 hA hm him, iI_add, s_mis, q2T, e1, e2, kl_n, kl_i, kl_r, kl_z, kl_l, kl_d, catS_0, catS_c, cat_i, cat_l, cat_d, cat_r, cat_n, kC_r, kC_x, Option.bind_some, Option.toList_some, Option.toList_none, List.cons_append, List.nil_append, gB0, gB1, gB2, gB3, gB4, rvB, nI_iI, i0, i1, l0_, wr_s, aup_s, and_true, true_and, and_self, eq_self, if_true, if_false, Nat.zero_le, Nat.reduceAdd, Nat.reduceLeDiff, gN_I, gN_L, gN_P, bI_0, bI_ok, z0, z1, Bool.true_eq, Bool.false_eq_true, not_true_eq_false, not_false_eq_true]
        rw [st]
        exact h9
      · have q2F := eq_false q2
        refine Or.inr ⟨fun z => q2 (z i him q), ?_⟩
        rw [r209_37]
        simp (disch := omega) only [r209_39, r209_40, r209_43, r209_44, r209_45, r209_48, r209_49, r209_51, r209_52, r209_53, r209_54, r209_57, r209_60, r209_63, r209_64, r209_66, r209_67, r209_70, r209_72, r209_73, r209_74, r209_76, r209_79, r209_82, r209_83, r209_84, r209_87, r209_88, r209_91, r209_94, md_0, md_1, hA, g0, iI_le, c1, r_isIn hA hm him hF hr, qT, r_3 hA hm him, iI_add, s_mis, q2F, r_refuse, kl_n, kl_i, kl_r, kl_z, kl_l, kl_d, catS_0, catS_c, cat_i, cat_l, cat_d, cat_r, cat_n, kC_r, kC_x, Option.bind_some, Option.toList_some, Option.toList_none, List.cons_append, List.nil_append, gB0, gB1, gB2, gB3, gB4, rvB, nI_iI, i0, i1, l0_, wr_s, aup_s, and_true, true_and, and_self, eq_self, if_true, if_false, Nat.zero_le, Nat.reduceAdd, Nat.reduceLeDiff, gN_I, gN_L, gN_P, bI_0, bI_ok, z0, z1, Bool.true_eq, Bool.false_eq_true, not_true_eq_false, not_false_eq_true]
        rfl
    · have qF := eq_false q
      have b4 : ¬ inB4 t v u (F i) = true := fun z => q (of_decide_eq_true z)
      have h9 := ih (i + 1) (by omega) (fun j hj => by
        by_cases z : j = i
        · rw [z]
          exact fun x => absurd x q
        · exact hok j (by omega))
      rw [cntP_f b4] at h9
      have st : L (d + 2) 209 37 [some (.ref y), some (.int (iI t)), some (.int (iI v)), some (.int (iI u)), some (.int (iI b)), some (.int (iI (cntP (inB4 t v u) F i))), some (.int (iI i))] [] (mdW h y M, r) = L (d + 2) 209 37 [some (.ref y), some (.int (iI t)), some (.int (iI v)), some (.int (iI u)), some (.int (iI b)), some (.int (iI (cntP (inB4 t v u) F i))), some (.int (iI (i + 1 : Nat)))] [] (mdW h y M, r) := by
        rw [r209_37]
        simp (disch := omega) only [r209_39, r209_40, r209_43, r209_44, r209_45, r209_48, r209_49, r209_51, r209_52, r209_53, r209_54, r209_57, r209_60, r209_63, r209_64, r209_66, r209_67, r209_70, r209_72, r209_73, r209_74, r209_76, r209_79, r209_82, r209_83, r209_84, r209_87, r209_88, r209_91, r209_94, md_0, md_1, hA, g0, iI_le, c1, r_isIn hA hm him hF hr, qF, iI_add, e1, kl_n, kl_i, kl_r, kl_z, kl_l, kl_d, catS_0, catS_c, cat_i, cat_l, cat_d, cat_r, cat_n, kC_r, kC_x, Option.bind_some, Option.toList_some, Option.toList_none, List.cons_append, List.nil_append, gB0, gB1, gB2, gB3, gB4, rvB, nI_iI, i0, i1, l0_, wr_s, aup_s, and_true, true_and, and_self, eq_self, if_true, if_false, Nat.zero_le, Nat.reduceAdd, Nat.reduceLeDiff, gN_I, gN_L, gN_P, bI_0, bI_ok, z0, z1, Bool.true_eq, Bool.false_eq_true, not_true_eq_false, not_false_eq_true]
      rw [st]
      exact h9
theorem tr_100 {t v u b : Int} {m : Nat} {F : Nat → Nat} {X : Nat → Int32} {l5 : Int32} (hm : m ≤ 60) (hF : ∀ i, cOk (F i)) (hr : rgOk t v u) (hb : -127 ≤ b ∧ b ≤ 127) (hok : ∀ j, j < m → tpOk t v u b (F j)) : ∀ s i : Nat, i + s = m → L (d + 2) 209 100 [some (.ref y), some (.int (iI t)), some (.int (iI v)), some (.int (iI u)), some (.int (iI b)), some (.int l5), some (.int (iI i))] [] (mdW h y (alM M (nB m (mapN F (tpG t v u b) i) X)), r) =
    L (d + 2) 209 146 [some (.ref y), some (.int (iI t)), some (.int (iI v)), some (.int (iI u)), some (.int (iI b)), some (.int l5), some (.int (iI m))] [] (mdW h y (alM M (nB m (mapN F (tpG t v u b) m) X)), r) := by
  intro s
  induction s with
  | zero =>
    intro i hi
    obtain rfl : i = m := by omega
    have m0 := md_0 (h := h) (y := y) (M := alM M (nB i (mapN F (tpG t v u b) i) X))
    have m1 : mdW h y (alM M (nB i (mapN F (tpG t v u b) i) X)) (y + 1) = some (aI .int 385 (nB i (mapN F (tpG t v u b) i) X)) := md_1
    have g0 : gI (some (aI .int 385 (nB i (mapN F (tpG t v u b) i) X))) (iI 0) = some (iI i) := gI_0 (by omega)
    rw [r209_100]
    simp (disch := omega) only [r209_102, r209_103, r209_106, r209_107, r209_108, m0, m1, g0, iI_le, Int.le_refl, kl_n, kl_i, kl_r, kl_z, kl_l, kl_d, catS_0, catS_c, cat_i, cat_l, cat_d, cat_r, cat_n, kC_r, kC_x, Option.bind_some, Option.toList_some, Option.toList_none, List.cons_append, List.nil_append, gB0, gB1, gB2, gB3, gB4, rvB, nI_iI, i0, i1, l0_, wr_s, aup_s, and_true, true_and, and_self, eq_self, if_true, if_false, Nat.zero_le, Nat.reduceAdd, Nat.reduceLeDiff, gN_I, gN_L, gN_P, bI_0, bI_ok, z0, z1, Bool.true_eq, Bool.false_eq_true, not_true_eq_false, not_false_eq_true]
  | succ s ih =>
    intro i hi
    have him : i < m := by omega
    have c1 : ¬ (m : Int) ≤ i := by omega
    have e1 : (i : Int) + 1 = ((i + 1 : Nat) : Int) := by omega
    have a4 := cP_lt (F i)
    have m0 := md_0 (h := h) (y := y) (M := alM M (nB m (mapN F (tpG t v u b) i) X))
    have m1 : mdW h y (alM M (nB m (mapN F (tpG t v u b) i) X)) (y + 1) = some (aI .int 385 (nB m (mapN F (tpG t v u b) i) X)) := md_1
    have g0 : gI (some (aI .int 385 (nB m (mapN F (tpG t v u b) i) X))) (iI 0) = some (iI m) := gI_0 (by omega)
    have hF2 : ∀ j, cOk (mapN F (tpG t v u b) i j) := fun j => by
      unfold mapN
      split
      · next hj =>
        by_cases q : cIn (F j) t v u
        · exact (tpG_f (hF j) q (hok j (by omega) q)).1
        · unfold tpG
          rw [if_neg q]
          exact hF j
      · exact hF j
    have ii := r_isIn (d := d) (h := h) (r := r) (y := y) (M := alM M (nB m (mapN F (tpG t v u b) i) X)) (X := X) rfl hm him hF2 hr
    have rp := r_3 (d := d + 1) (h := h) (r := r) (y := y) (M := alM M (nB m (mapN F (tpG t v u b) i) X)) (X := X) rfl hm him
    rw [mapN_at] at ii rp
    have h9 := ih (i + 1) (by omega)
    by_cases q : cIn (F i) t v u
    · have qT := eq_true q
      have hb2 := hok i him q
      obtain ⟨z0, z1, z2, z3, z4, z5⟩ := tpG_f (hF i) q hb2
      have st := s_setA (d := d + 1) (h := h) (r := r) (y := y) (M := alM M (nB m (mapN F (tpG t v u b) i) X)) (i := i) (j := 3) (v := iI (cFact (tpG t v u b (F i)) 3)) (by omega)
      rw [show upd (alM M (nB m (mapN F (tpG t v u b) i) X)).2.1 (1 + 5 * i + 3) (iI (cFact (tpG t v u b (F i)) 3)) = nB m (mapN F (tpG t v u b) (i + 1)) X from mp_set him (by omega) (fun k h1 h2 => by
        obtain rfl | rfl | rfl | rfl : k = 0 ∨ k = 1 ∨ k = 2 ∨ k = 4 := by omega
        · rw [cF0, cF0, z1]
        · rw [cF1, cF1, z2]
        · rw [cF2, cF2, z3]
        · rw [cF4, cF4, z5])] at st
      rw [cF3, z4, show ((((cP (F i) : Int) + b).toNat : Nat) : Int) = (cP (F i) : Int) + b by omega, show ((3 : Nat) : Int) = 3 from rfl] at st
      have st2 : aE (d + 2) 198 [.ref y, .int (iI i), .int (iI 3), .int (iI ((cP (F i) : Int) + b))] (mdW h y (alM M (nB m (mapN F (tpG t v u b) i) X)), r) = some (.inl none, (mdW h y (alM M (nB m (mapN F (tpG t v u b) (i + 1)) X)), r)) := st
      rw [r209_100]
      simp (disch := omega) only [r209_102, r209_103, r209_106, r209_107, r209_108, r209_111, r209_112, r209_114, r209_115, r209_116, r209_117, r209_120, r209_123, r209_124, r209_126, r209_127, r209_128, r209_130, r209_131, r209_134, r209_136, r209_137, r209_140, r209_143, m0, m1, g0, iI_le, c1, ii, qT, rp, iI_add, st2, e1, h9, kl_n, kl_i, kl_r, kl_z, kl_l, kl_d, catS_0, catS_c, cat_i, cat_l, cat_d, cat_r, cat_n, kC_r, kC_x, Option.bind_some, Option.toList_some, Option.toList_none, List.cons_append, List.nil_append, gB0, gB1, gB2, gB3, gB4, rvB, nI_iI, i0, i1, l0_, wr_s, aup_s, and_true, true_and, and_self, eq_self, if_true, if_false, Nat.zero_le, Nat.reduceAdd, Nat.reduceLeDiff, gN_I, gN_L, gN_P, bI_0, bI_ok, z0, z1, Bool.true_eq, Bool.false_eq_true, not_true_eq_false, not_false_eq_true]
    · have qF := eq_false q
      rw [r209_100]
      simp (disch := omega) only [r209_102, r209_103, r209_106, r209_107, r209_108, r209_111, r209_112, r209_114, r209_115, r209_116, r209_117, r209_120, r209_123, r209_124, r209_126, r209_127, r209_128, r209_130, r209_131, r209_134, r209_136, r209_137, r209_140, r209_143, m0, m1, g0, iI_le, c1, ii, qF, iI_add, e1, kl_n, kl_i, kl_r, kl_z, kl_l, kl_d, catS_0, catS_c, cat_i, cat_l, cat_d, cat_r, cat_n, kC_r, kC_x, Option.bind_some, Option.toList_some, Option.toList_none, List.cons_append, List.nil_append, gB0, gB1, gB2, gB3, gB4, rvB, nI_iI, i0, i1, l0_, wr_s, aup_s, and_true, true_and, and_self, eq_self, if_true, if_false, Nat.zero_le, Nat.reduceAdd, Nat.reduceLeDiff, gN_I, gN_L, gN_P, bI_0, bI_ok, z0, z1, Bool.true_eq, Bool.false_eq_true, not_true_eq_false, not_false_eq_true]
      rw [mapN_z (F := F) (g := tpG t v u b) (k := i) (by unfold tpG; rw [if_neg q])]
      exact h9
theorem r_transpose {t v u b : Int} {m uu : Nat} {F : Nat → Nat} {X : Nat → Int32} (hy : y + 531 ≤ n) (hA : M.2.1 = nB m F X) (hm : m ≤ 60) (hF : ∀ i, cOk (F i)) (hr : rgOk t v u) (hb : -127 ≤ b ∧ b ≤ 127) (hok : ∀ j, j < m → tpOk t v u b (F j)) (hu : M.1.2.1 = iI uu) (hbu : uu ≤ 20) (hU : ∀ i, i < 21 → M.2.2.2.1.1 i < 21) (hG : ∀ i, cOk (mapN F (tpG t v u b) m i)) :
    ∃ s, s ≤ invN (mapN F (tpG t v u b) m) m ∧ aE (d + 9) 209 [.ref y, .int (iI t), .int (iI v), .int (iI u), .int (iI b)] (mdW h y M, n, w, g) = some (.inl (some (.int (iI (cntP (inB4 t v u) F m)))),
      (mdW h y (dnM (alM (bgM M) (nB m (srtN (mapN F (tpG t v u b) m) m) X)) uu), n + 1 + s, w + 300 + 5 * s, g)) := by
  have qr := eq_true (show -1 ≤ t ∧ t ≤ 5 ∧ 0 ≤ v ∧ v < u ∧ u ≤ 9600 from hr)
  have hr2 : -1 ≤ t ∧ t ≤ 5 ∧ 0 ≤ v ∧ v < u ∧ u ≤ 9600 := hr
  have qb := eq_true hb
  have bg := r_begin (d := d + 7) (n := n) (w := w) (g := g) (h := h) (y := y) (M := M)
  have m0 := md_0 (h := h) (y := y) (M := bgM M)
  have em : alM (bgM M) (nB m (mapN F (tpG t v u b) 0) X) = bgM M := by
    rw [mapN_0, ← hA]
    rfl
  have k1 := tr_100 (d := d + 6) (h := h) (r := (n, w, g)) (y := y) (M := bgM M) (l5 := iI (cntP (inB4 t v u) F m)) (X := X) hm hF hr hb hok m 0 (by omega)
  rw [em, show ((0 : Nat) : Int) = 0 from rfl] at k1
  obtain ⟨s, s1, so⟩ := r_sort (d := d + 4) (g := g) (n := n) (w := w) (h := h) (y := y) (M := alM (bgM M) (nB m (mapN F (tpG t v u b) m) X)) (m := m) (F := mapN F (tpG t v u b) m) (X := X) hy hm hG rfl
  have so2 : aE (d + 8) 203 [.ref y] (mdW h y (alM (bgM M) (nB m (mapN F (tpG t v u b) m) X)), n, w, g) = some (.inl none, (mdW h y (alM (bgM M) (nB m (srtN (mapN F (tpG t v u b) m) m) X)), n + 1 + s, w + 300 + 5 * s, g)) := so
  have m2 := fun A => md_0 (h := h) (y := y) (M := alM (bgM M) A)
  have dn := r_done (d := d + 1) (n := n + 1 + s) (w := w + 300 + 5 * s) (g := g) (h := h) (y := y) (M := alM (bgM M) (nB m (srtN (mapN F (tpG t v u b) m) m) X)) (t := iI (cntP (inB4 t v u) F m)) hu hbu hU
  refine ⟨s, s1, ?_⟩
  have hL : L (d + 8) 209 0 [some (.ref y), some (.int (iI t)), some (.int (iI v)), some (.int (iI u)), some (.int (iI b)), none, none] [] (mdW h y M, n, w, g) = some (.inl (some (.int (iI (cntP (inB4 t v u) F m)))), (mdW h y (dnM (alM (bgM M) (nB m (srtN (mapN F (tpG t v u b) m) m) X)) uu), n + 1 + s, w + 300 + 5 * s, g)) := by
    rcases tr_37 (d := d + 6) (h := h) (r := (n, w, g)) (y := y) (M := bgM M) (X := X) hA hm hF hr hb m 0 (by omega) (fun j hj => by omega) with ⟨-, k0⟩ | ⟨z, -⟩
    · rw [show ((cntP (inB4 t v u) F 0 : Nat) : Int) = 0 from rfl, show ((0 : Nat) : Int) = 0 from rfl] at k0
      simp (disch := omega) only [r209_0, r209_1, r209_4, r209_5, r209_6, r209_7, r209_10, r209_13, r209_15, r209_17, r209_19, r209_22, r209_25, r209_26, r209_27, r209_30, r209_31, r209_32, r209_34, r209_35, md_0, bg, s_mRange, qr, s_mis, qb, k0, kl_n, kl_i, kl_r, kl_z, kl_l, kl_d, catS_0, catS_c, cat_i, cat_l, cat_d, cat_r, cat_n, kC_r, kC_x, Option.bind_some, Option.toList_some, Option.toList_none, List.cons_append, List.nil_append, gB0, gB1, gB2, gB3, gB4, rvB, nI_iI, i0, i1, l0_, wr_s, aup_s, and_true, true_and, and_self, eq_self, if_true, if_false, Nat.zero_le, Nat.reduceAdd, Nat.reduceLeDiff, gN_I, gN_L, gN_P, bI_0, bI_ok, z0, z1, Bool.true_eq, Bool.false_eq_true, not_true_eq_false, not_false_eq_true]
      simp (disch := omega) only [r209_97, r209_98, k1, kl_n, kl_i, kl_r, kl_z, kl_l, kl_d, catS_0, catS_c, cat_i, cat_l, cat_d, cat_r, cat_n, kC_r, kC_x, Option.bind_some, Option.toList_some, Option.toList_none, List.cons_append, List.nil_append, gB0, gB1, gB2, gB3, gB4, rvB, nI_iI, i0, i1, l0_, wr_s, aup_s, and_true, true_and, and_self, eq_self, if_true, if_false, Nat.zero_le, Nat.reduceAdd, Nat.reduceLeDiff, gN_I, gN_L, gN_P, bI_0, bI_ok, z0, z1, Bool.true_eq, Bool.false_eq_true, not_true_eq_false, not_false_eq_true]
      simp (disch := omega) only [r209_146, r209_147, r209_150, r209_151, r209_153, r209_156, m2, so2, dn, kl_n, kl_i, kl_r, kl_z, kl_l, kl_d, catS_0, catS_c, cat_i, cat_l, cat_d, cat_r, cat_n, kC_r, kC_x, Option.bind_some, Option.toList_some, Option.toList_none, List.cons_append, List.nil_append, gB0, gB1, gB2, gB3, gB4, rvB, nI_iI, i0, i1, l0_, wr_s, aup_s, and_true, true_and, and_self, eq_self, if_true, if_false, Nat.zero_le, Nat.reduceAdd, Nat.reduceLeDiff, gN_I, gN_L, gN_P, bI_0, bI_ok, z0, z1, Bool.true_eq, Bool.false_eq_true, not_true_eq_false, not_false_eq_true]
    · exact absurd hok z
  rw [e209, hL, fin_mm hy]
theorem r_transpose_1 {t v u b : Int} (hy : y + 531 ≤ n) (b1 : -2147483648 ≤ t ∧ t < 2147483648) (b2 : -2147483648 ≤ v ∧ v < 2147483648) (b3 : -2147483648 ≤ u ∧ u < 2147483648) (b4 : -2147483648 ≤ b ∧ b < 2147483648) (hc : ¬ (rgOk t v u ∧ -127 ≤ b ∧ b ≤ 127)) :
    aE (d + 9) 209 [.ref y, .int (iI t), .int (iI v), .int (iI u), .int (iI b)] (mdW h y M, n, w, g) = some (.inl (some (.int (iI 0))), (mdW h y (rfM 1 (bgM M)), n, w, g)) := by
  have bg := r_begin (d := d + 7) (n := n) (w := w) (g := g) (h := h) (y := y) (M := M)
  have m0 := md_0 (h := h) (y := y) (M := bgM M)
  have rf := r_refuse (d := d + 7) (h := h) (r := (n, w, g)) (y := y) (M := bgM M) (k := 1)
  have hL : L (d + 8) 209 0 [some (.ref y), some (.int (iI t)), some (.int (iI v)), some (.int (iI u)), some (.int (iI b)), none, none] [] (mdW h y M, n, w, g) = some (.inl (some (.int (iI 0))), (mdW h y (rfM 1 (bgM M)), n, w, g)) := by
    by_cases q : -1 ≤ t ∧ t ≤ 5 ∧ 0 ≤ v ∧ v < u ∧ u ≤ 9600
    · have qT := eq_true q
      have q2 := eq_false (fun z => hc ⟨q, z⟩ : ¬ (-127 ≤ b ∧ b ≤ 127))
      simp (disch := omega) only [r209_0, r209_1, r209_4, r209_5, r209_6, r209_7, r209_10, r209_13, r209_15, r209_17, r209_19, r209_22, r209_25, r209_26, r209_27, r209_30, md_0, bg, m0, s_mRange, qT, s_mis, q2, rf, kl_n, kl_i, kl_r, kl_z, kl_l, kl_d, catS_0, catS_c, cat_i, cat_l, cat_d, cat_r, cat_n, kC_r, kC_x, Option.bind_some, Option.toList_some, Option.toList_none, List.cons_append, List.nil_append, gB0, gB1, gB2, gB3, gB4, rvB, nI_iI, i0, i1, l0_, wr_s, aup_s, and_true, true_and, and_self, eq_self, if_true, if_false, Nat.zero_le, Nat.reduceAdd, Nat.reduceLeDiff, gN_I, gN_L, gN_P, bI_0, bI_ok, z0, z1, Bool.true_eq, Bool.false_eq_true, not_true_eq_false, not_false_eq_true]
      rfl
    · have qT := eq_false q
      simp (disch := omega) only [r209_0, r209_1, r209_4, r209_5, r209_6, r209_7, r209_10, r209_13, r209_15, r209_17, r209_19, r209_22, r209_25, r209_26, r209_27, r209_30, md_0, bg, m0, s_mRange, qT, rf, kl_n, kl_i, kl_r, kl_z, kl_l, kl_d, catS_0, catS_c, cat_i, cat_l, cat_d, cat_r, cat_n, kC_r, kC_x, Option.bind_some, Option.toList_some, Option.toList_none, List.cons_append, List.nil_append, gB0, gB1, gB2, gB3, gB4, rvB, nI_iI, i0, i1, l0_, wr_s, aup_s, and_true, true_and, and_self, eq_self, if_true, if_false, Nat.zero_le, Nat.reduceAdd, Nat.reduceLeDiff, gN_I, gN_L, gN_P, bI_0, bI_ok, z0, z1, Bool.true_eq, Bool.false_eq_true, not_true_eq_false, not_false_eq_true]
      rfl
  rw [e209, hL, fin_mm hy]
theorem r_transpose_2 {t v u b : Int} {m : Nat} {F : Nat → Nat} {X : Nat → Int32} (hy : y + 531 ≤ n) (hA : M.2.1 = nB m F X) (hm : m ≤ 60) (hF : ∀ i, cOk (F i)) (hr : rgOk t v u) (hb : -127 ≤ b ∧ b ≤ 127) (hok : ¬ ∀ j, j < m → tpOk t v u b (F j)) :
    aE (d + 9) 209 [.ref y, .int (iI t), .int (iI v), .int (iI u), .int (iI b)] (mdW h y M, n, w, g) = some (.inl (some (.int (iI 0))), (mdW h y (rfM 2 (bgM M)), n, w, g)) := by
  have qr := eq_true (show -1 ≤ t ∧ t ≤ 5 ∧ 0 ≤ v ∧ v < u ∧ u ≤ 9600 from hr)
  have hr2 : -1 ≤ t ∧ t ≤ 5 ∧ 0 ≤ v ∧ v < u ∧ u ≤ 9600 := hr
  have qb := eq_true hb
  have bg := r_begin (d := d + 7) (n := n) (w := w) (g := g) (h := h) (y := y) (M := M)
  have hL : L (d + 8) 209 0 [some (.ref y), some (.int (iI t)), some (.int (iI v)), some (.int (iI u)), some (.int (iI b)), none, none] [] (mdW h y M, n, w, g) = some (.inl (some (.int (iI 0))), (mdW h y (rfM 2 (bgM M)), n, w, g)) := by
    rcases tr_37 (d := d + 6) (h := h) (r := (n, w, g)) (y := y) (M := bgM M) (X := X) hA hm hF hr hb m 0 (by omega) (fun j hj => by omega) with ⟨z, -⟩ | ⟨-, k0⟩
    · exact absurd z hok
    · rw [show ((cntP (inB4 t v u) F 0 : Nat) : Int) = 0 from rfl, show ((0 : Nat) : Int) = 0 from rfl] at k0
      simp (disch := omega) only [r209_0, r209_1, r209_4, r209_5, r209_6, r209_7, r209_10, r209_13, r209_15, r209_17, r209_19, r209_22, r209_25, r209_26, r209_27, r209_30, r209_31, r209_32, r209_34, r209_35, md_0, bg, s_mRange, qr, s_mis, qb, k0, kl_n, kl_i, kl_r, kl_z, kl_l, kl_d, catS_0, catS_c, cat_i, cat_l, cat_d, cat_r, cat_n, kC_r, kC_x, Option.bind_some, Option.toList_some, Option.toList_none, List.cons_append, List.nil_append, gB0, gB1, gB2, gB3, gB4, rvB, nI_iI, i0, i1, l0_, wr_s, aup_s, and_true, true_and, and_self, eq_self, if_true, if_false, Nat.zero_le, Nat.reduceAdd, Nat.reduceLeDiff, gN_I, gN_L, gN_P, bI_0, bI_ok, z0, z1, Bool.true_eq, Bool.false_eq_true, not_true_eq_false, not_false_eq_true]
  rw [e209, hL, fin_mm hy]
theorem wg_37 {t v u : Int} {p m : Nat} {F : Nat → Nat} {X : Nat → Int32} (hm : m ≤ 60) (hF : ∀ i, cOk (F i)) (hr : rgOk t v u) (hp : p ≤ 400) : ∀ s i : Nat, i + s = m → L (d + 2) 210 37 [some (.ref y), some (.int (iI t)), some (.int (iI v)), some (.int (iI u)), some (.int (iI p)), some (.int (iI (cntP (inB4 t v u) F i))), some (.int (iI i))] [] (mdW h y (alM M (nB m (mapN F (wgG t v u p) i) X)), r) =
    L (d + 2) 210 101 [some (.ref y), some (.int (iI t)), some (.int (iI v)), some (.int (iI u)), some (.int (iI p)), some (.int (iI (cntP (inB4 t v u) F m))), some (.int (iI m))] [] (mdW h y (alM M (nB m (mapN F (wgG t v u p) m) X)), r) := by
  intro s
  induction s with
  | zero =>
    intro i hi
    obtain rfl : i = m := by omega
    have m0 := md_0 (h := h) (y := y) (M := alM M (nB i (mapN F (wgG t v u p) i) X))
    have m1 : mdW h y (alM M (nB i (mapN F (wgG t v u p) i) X)) (y + 1) = some (aI .int 385 (nB i (mapN F (wgG t v u p) i) X)) := md_1
    have g0 : gI (some (aI .int 385 (nB i (mapN F (wgG t v u p) i) X))) (iI 0) = some (iI i) := gI_0 (by omega)
    rw [r210_37]
    simp (disch := omega) only [r210_39, r210_40, r210_43, r210_44, r210_45, m0, m1, g0, iI_le, Int.le_refl, kl_n, kl_i, kl_r, kl_z, kl_l, kl_d, catS_0, catS_c, cat_i, cat_l, cat_d, cat_r, cat_n, kC_r, kC_x, Option.bind_some, Option.toList_some, Option.toList_none, List.cons_append, List.nil_append, gB0, gB1, gB2, gB3, gB4, rvB, nI_iI, i0, i1, l0_, wr_s, aup_s, and_true, true_and, and_self, eq_self, if_true, if_false, Nat.zero_le, Nat.reduceAdd, Nat.reduceLeDiff, gN_I, gN_L, gN_P, bI_0, bI_ok, z0, z1, Bool.true_eq, Bool.false_eq_true, not_true_eq_false, not_false_eq_true]
  | succ s ih =>
    intro i hi
    have him : i < m := by omega
    have c1 : ¬ (m : Int) ≤ i := by omega
    have e1 : (i : Int) + 1 = ((i + 1 : Nat) : Int) := by omega
    have e2 : ((cntP (inB4 t v u) F i : Nat) : Int) + 1 = ((cntP (inB4 t v u) F i + 1 : Nat) : Int) := by omega
    have a5 := cF_lt (F i)
    have m0 := md_0 (h := h) (y := y) (M := alM M (nB m (mapN F (wgG t v u p) i) X))
    have m1 : mdW h y (alM M (nB m (mapN F (wgG t v u p) i) X)) (y + 1) = some (aI .int 385 (nB m (mapN F (wgG t v u p) i) X)) := md_1
    have g0 : gI (some (aI .int 385 (nB m (mapN F (wgG t v u p) i) X))) (iI 0) = some (iI m) := gI_0 (by omega)
    have hF2 : ∀ j, cOk (mapN F (wgG t v u p) i j) := mapN_ok (fun c hc => wgG_ok hc) hF
    have ii := r_isIn (d := d) (h := h) (r := r) (y := y) (M := alM M (nB m (mapN F (wgG t v u p) i) X)) (X := X) rfl hm him hF2 hr
    have rp := r_4 (d := d + 1) (h := h) (r := r) (y := y) (M := alM M (nB m (mapN F (wgG t v u p) i) X)) (X := X) rfl hm him
    rw [mapN_at] at ii rp
    have h9 := ih (i + 1) (by omega)
    by_cases q : cIn (F i) t v u
    · have qT := eq_true q
      have b4 : inB4 t v u (F i) = true := decide_eq_true q
      rw [cntP_t b4] at h9
      obtain ⟨z1, z2, z3, z4, z5⟩ := wgG_f (p := p) (hF i) q
      have mb : cF (F i) * p ≤ 127 * 400 := Nat.mul_le_mul (by omega) hp
      have e3 : (cF (F i) : Int) * (p : Int) = ((cF (F i) * p : Nat) : Int) := (Int.natCast_mul _ _).symm
      have e4 : ((cF (F i) * p : Nat) : Int) / 100 = ((cF (F i) * p / 100 : Nat) : Int) := rfl
      have e5 : max (1 : Int) (min 127 ((cF (F i) * p / 100 : Nat) : Int)) = ((max 1 (min 127 (cF (F i) * p / 100)) : Nat) : Int) := by
        generalize cF (F i) * p / 100 = z
        omega
      have st := s_setA (d := d + 1) (h := h) (r := r) (y := y) (M := alM M (nB m (mapN F (wgG t v u p) i) X)) (i := i) (j := 4) (v := iI (cFact (wgG t v u p (F i)) 4)) (by omega)
      rw [show upd (alM M (nB m (mapN F (wgG t v u p) i) X)).2.1 (1 + 5 * i + 4) (iI (cFact (wgG t v u p (F i)) 4)) = nB m (mapN F (wgG t v u p) (i + 1)) X from mp_set him (by omega) (fun k h1 h2 => by
        obtain rfl | rfl | rfl | rfl : k = 0 ∨ k = 1 ∨ k = 2 ∨ k = 3 := by omega
        · rw [cF0, cF0, z1]
        · rw [cF1, cF1, z2]
        · rw [cF2, cF2, z3]
        · rw [cF3, cF3, z4])] at st
      rw [cF4, z5, show ((4 : Nat) : Int) = 4 from rfl] at st
      have st2 : aE (d + 2) 198 [.ref y, .int (iI i), .int (iI 4), .int (iI (max 1 (min 127 (cF (F i) * p / 100)) : Nat))] (mdW h y (alM M (nB m (mapN F (wgG t v u p) i) X)), r) = some (.inl none, (mdW h y (alM M (nB m (mapN F (wgG t v u p) (i + 1)) X)), r)) := st
      generalize hz : cF (F i) * p = z at mb e3 e4 e5 st2
      rw [r210_37]
      simp (disch := omega) only [r210_39, r210_40, r210_43, r210_44, r210_45, r210_48, r210_49, r210_51, r210_52, r210_53, r210_54, r210_57, r210_60, r210_63, r210_64, r210_66, r210_67, r210_68, r210_70, r210_71, r210_73, r210_74, r210_77, r210_79, r210_80, r210_82, r210_83, r210_86, r210_89, r210_92, r210_95, r210_98, m0, m1, g0, iI_le, c1, ii, qT, rp, iI_mul, e3, iI_div, iI_eq, show ¬ (100 : Int) = 0 by omega, e4, s_min, s_max, e5, st2, iI_add, e1, e2, h9, kl_n, kl_i, kl_r, kl_z, kl_l, kl_d, catS_0, catS_c, cat_i, cat_l, cat_d, cat_r, cat_n, kC_r, kC_x, Option.bind_some, Option.toList_some, Option.toList_none, List.cons_append, List.nil_append, gB0, gB1, gB2, gB3, gB4, rvB, nI_iI, i0, i1, l0_, wr_s, aup_s, and_true, true_and, and_self, eq_self, if_true, if_false, Nat.zero_le, Nat.reduceAdd, Nat.reduceLeDiff, gN_I, gN_L, gN_P, bI_0, bI_ok, z0, z1, Bool.true_eq, Bool.false_eq_true, not_true_eq_false, not_false_eq_true]
    · have qF := eq_false q
      have b4 : ¬ inB4 t v u (F i) = true := fun z => q (of_decide_eq_true z)
      rw [cntP_f b4] at h9
      rw [r210_37]
      simp (disch := omega) only [r210_39, r210_40, r210_43, r210_44, r210_45, r210_48, r210_49, r210_51, r210_52, r210_53, r210_54, r210_57, r210_60, r210_63, r210_64, r210_66, r210_67, r210_68, r210_70, r210_71, r210_73, r210_74, r210_77, r210_79, r210_80, r210_82, r210_83, r210_86, r210_89, r210_92, r210_95, r210_98, m0, m1, g0, iI_le, c1, ii, qF, iI_add, e1, kl_n, kl_i, kl_r, kl_z, kl_l, kl_d, catS_0, catS_c, cat_i, cat_l, cat_d, cat_r, cat_n, kC_r, kC_x, Option.bind_some, Option.toList_some, Option.toList_none, List.cons_append, List.nil_append, gB0, gB1, gB2, gB3, gB4, rvB, nI_iI, i0, i1, l0_, wr_s, aup_s, and_true, true_and, and_self, eq_self, if_true, if_false, Nat.zero_le, Nat.reduceAdd, Nat.reduceLeDiff, gN_I, gN_L, gN_P, bI_0, bI_ok, z0, z1, Bool.true_eq, Bool.false_eq_true, not_true_eq_false, not_false_eq_true]
      rw [mapN_z (F := F) (g := wgG t v u p) (k := i) (by unfold wgG; rw [if_neg q])]
      exact h9
theorem r_weigh {t v u : Int} {p m uu : Nat} {F : Nat → Nat} {X : Nat → Int32} (hy : y + 531 ≤ n) (hA : M.2.1 = nB m F X) (hm : m ≤ 60) (hF : ∀ i, cOk (F i)) (hr : rgOk t v u) (hp : p ≤ 400) (hu : M.1.2.1 = iI uu) (hbu : uu ≤ 20) (hU : ∀ i, i < 21 → M.2.2.2.1.1 i < 21) :
    ∃ s, s ≤ invN (mapN F (wgG t v u p) m) m ∧ aE (d + 9) 210 [.ref y, .int (iI t), .int (iI v), .int (iI u), .int (iI p)] (mdW h y M, n, w, g) = some (.inl (some (.int (iI (cntP (inB4 t v u) F m)))),
      (mdW h y (dnM (alM (bgM M) (nB m (srtN (mapN F (wgG t v u p) m) m) X)) uu), n + 1 + s, w + 300 + 5 * s, g)) := by
  have qr := eq_true (show -1 ≤ t ∧ t ≤ 5 ∧ 0 ≤ v ∧ v < u ∧ u ≤ 9600 from hr)
  have hr2 : -1 ≤ t ∧ t ≤ 5 ∧ 0 ≤ v ∧ v < u ∧ u ≤ 9600 := hr
  have qb : (0 : Int) ≤ p ∧ (p : Int) ≤ 400 := by omega
  have bg := r_begin (d := d + 7) (n := n) (w := w) (g := g) (h := h) (y := y) (M := M)
  have em : alM (bgM M) (nB m (mapN F (wgG t v u p) 0) X) = bgM M := by
    rw [mapN_0, ← hA]
    rfl
  have k1 := wg_37 (d := d + 6) (h := h) (r := (n, w, g)) (y := y) (M := bgM M) (X := X) hm hF hr hp m 0 (by omega)
  rw [em, show ((cntP (inB4 t v u) F 0 : Nat) : Int) = 0 from rfl, show ((0 : Nat) : Int) = 0 from rfl] at k1
  have hG : ∀ i, cOk (mapN F (wgG t v u p) m i) := mapN_ok (fun c hc => wgG_ok hc) hF
  obtain ⟨s, s1, so⟩ := r_sort (d := d + 4) (g := g) (n := n) (w := w) (h := h) (y := y) (M := alM (bgM M) (nB m (mapN F (wgG t v u p) m) X)) (m := m) (F := mapN F (wgG t v u p) m) (X := X) hy hm hG rfl
  have so2 : aE (d + 8) 203 [.ref y] (mdW h y (alM (bgM M) (nB m (mapN F (wgG t v u p) m) X)), n, w, g) = some (.inl none, (mdW h y (alM (bgM M) (nB m (srtN (mapN F (wgG t v u p) m) m) X)), n + 1 + s, w + 300 + 5 * s, g)) := so
  have m2 := fun A => md_0 (h := h) (y := y) (M := alM (bgM M) A)
  have dn := r_done (d := d + 1) (n := n + 1 + s) (w := w + 300 + 5 * s) (g := g) (h := h) (y := y) (M := alM (bgM M) (nB m (srtN (mapN F (wgG t v u p) m) m) X)) (t := iI (cntP (inB4 t v u) F m)) hu hbu hU
  refine ⟨s, s1, ?_⟩
  have hL : L (d + 8) 210 0 [some (.ref y), some (.int (iI t)), some (.int (iI v)), some (.int (iI u)), some (.int (iI p)), none, none] [] (mdW h y M, n, w, g) = some (.inl (some (.int (iI (cntP (inB4 t v u) F m)))), (mdW h y (dnM (alM (bgM M) (nB m (srtN (mapN F (wgG t v u p) m) m) X)) uu), n + 1 + s, w + 300 + 5 * s, g)) := by
    simp (disch := omega) only [r210_0, r210_1, r210_4, r210_5, r210_6, r210_7, r210_10, r210_13, r210_15, r210_16, r210_19, r210_22, r210_25, r210_26, r210_27, r210_30, r210_31, r210_32, r210_34, r210_35, md_0, bg, s_mRange, qr, s_mis, qb, k1, kl_n, kl_i, kl_r, kl_z, kl_l, kl_d, catS_0, catS_c, cat_i, cat_l, cat_d, cat_r, cat_n, kC_r, kC_x, Option.bind_some, Option.toList_some, Option.toList_none, List.cons_append, List.nil_append, gB0, gB1, gB2, gB3, gB4, rvB, nI_iI, i0, i1, l0_, wr_s, aup_s, and_true, true_and, and_self, eq_self, if_true, if_false, Nat.zero_le, Nat.reduceAdd, Nat.reduceLeDiff, gN_I, gN_L, gN_P, bI_0, bI_ok, z0, z1, Bool.true_eq, Bool.false_eq_true, not_true_eq_false, not_false_eq_true]
    simp (disch := omega) only [r210_101, r210_102, r210_105, r210_106, r210_108, r210_111, m2, so2, dn, kl_n, kl_i, kl_r, kl_z, kl_l, kl_d, catS_0, catS_c, cat_i, cat_l, cat_d, cat_r, cat_n, kC_r, kC_x, Option.bind_some, Option.toList_some, Option.toList_none, List.cons_append, List.nil_append, gB0, gB1, gB2, gB3, gB4, rvB, nI_iI, i0, i1, l0_, wr_s, aup_s, and_true, true_and, and_self, eq_self, if_true, if_false, Nat.zero_le, Nat.reduceAdd, Nat.reduceLeDiff, gN_I, gN_L, gN_P, bI_0, bI_ok, z0, z1, Bool.true_eq, Bool.false_eq_true, not_true_eq_false, not_false_eq_true]
  rw [e210, hL, fin_mm hy]
theorem r_weigh_1 {t v u b : Int} (hy : y + 531 ≤ n) (b1 : -2147483648 ≤ t ∧ t < 2147483648) (b2 : -2147483648 ≤ v ∧ v < 2147483648) (b3 : -2147483648 ≤ u ∧ u < 2147483648) (b4 : -2147483648 ≤ b ∧ b < 2147483648) (hc : ¬ (rgOk t v u ∧ 0 ≤ b ∧ b ≤ 400)) :
    aE (d + 9) 210 [.ref y, .int (iI t), .int (iI v), .int (iI u), .int (iI b)] (mdW h y M, n, w, g) = some (.inl (some (.int (iI 0))), (mdW h y (rfM 1 (bgM M)), n, w, g)) := by
  have bg := r_begin (d := d + 7) (n := n) (w := w) (g := g) (h := h) (y := y) (M := M)
  have m0 := md_0 (h := h) (y := y) (M := bgM M)
  have rf := r_refuse (d := d + 7) (h := h) (r := (n, w, g)) (y := y) (M := bgM M) (k := 1)
  have hL : L (d + 8) 210 0 [some (.ref y), some (.int (iI t)), some (.int (iI v)), some (.int (iI u)), some (.int (iI b)), none, none] [] (mdW h y M, n, w, g) = some (.inl (some (.int (iI 0))), (mdW h y (rfM 1 (bgM M)), n, w, g)) := by
    by_cases q : -1 ≤ t ∧ t ≤ 5 ∧ 0 ≤ v ∧ v < u ∧ u ≤ 9600
    · have qT := eq_true q
      have q2 := eq_false (fun z => hc ⟨q, z⟩ : ¬ (0 ≤ b ∧ b ≤ 400))
      simp (disch := omega) only [r210_0, r210_1, r210_4, r210_5, r210_6, r210_7, r210_10, r210_13, r210_15, r210_16, r210_19, r210_22, r210_25, r210_26, r210_27, r210_30, md_0, bg, m0, s_mRange, qT, s_mis, q2, rf, kl_n, kl_i, kl_r, kl_z, kl_l, kl_d, catS_0, catS_c, cat_i, cat_l, cat_d, cat_r, cat_n, kC_r, kC_x, Option.bind_some, Option.toList_some, Option.toList_none, List.cons_append, List.nil_append, gB0, gB1, gB2, gB3, gB4, rvB, nI_iI, i0, i1, l0_, wr_s, aup_s, and_true, true_and, and_self, eq_self, if_true, if_false, Nat.zero_le, Nat.reduceAdd, Nat.reduceLeDiff, gN_I, gN_L, gN_P, bI_0, bI_ok, z0, z1, Bool.true_eq, Bool.false_eq_true, not_true_eq_false, not_false_eq_true]
      rfl
    · have qT := eq_false q
      simp (disch := omega) only [r210_0, r210_1, r210_4, r210_5, r210_6, r210_7, r210_10, r210_13, r210_15, r210_16, r210_19, r210_22, r210_25, r210_26, r210_27, r210_30, md_0, bg, m0, s_mRange, qT, rf, kl_n, kl_i, kl_r, kl_z, kl_l, kl_d, catS_0, catS_c, cat_i, cat_l, cat_d, cat_r, cat_n, kC_r, kC_x, Option.bind_some, Option.toList_some, Option.toList_none, List.cons_append, List.nil_append, gB0, gB1, gB2, gB3, gB4, rvB, nI_iI, i0, i1, l0_, wr_s, aup_s, and_true, true_and, and_self, eq_self, if_true, if_false, Nat.zero_le, Nat.reduceAdd, Nat.reduceLeDiff, gN_I, gN_L, gN_P, bI_0, bI_ok, z0, z1, Bool.true_eq, Bool.false_eq_true, not_true_eq_false, not_false_eq_true]
      rfl
  rw [e210, hL, fin_mm hy]
end
