/-! ===== the reference draws to a grid ===== -/
theorem sZ_Z {N : Nat} {f : Nat → Int32} {j : Nat} {p : Prop} [Decidable p] (h2 : j < N) (h3 : N < 2147483648) : sZ (some (aI .boolean N f)) (iI (j : Int)) (bI p) = some (aI .boolean N (upd f j (bI p))) := by
  show (if inB (iI (j : Int)) N && (bI p == 0 || bI p == 1) then some (aI .boolean N (upd f (iI (j : Int)).toNatClampNeg (bI p))) else none) = _
  rw [inB_i (by omega) (by omega), decide_eq_true (by omega), i0, i1, bI_ok, Bool.and_true, if_pos rfl, iI_cl (by omega) (by omega), Int.toNat_natCast]
theorem qnG_n {t v u : Int} {s p q c : Nat} (h : ¬ qnM t v u s p q c = true) : qnG t v u s p q c = c := if_neg h
theorem qnG_f {t v u : Int} {s p q c : Nat} (hc : cOk c) (hq : q ≤ 100) (h : qnM t v u s p q c = true) : cT (qnG t v u s p q c) = cT c ∧ cS (qnG t v u s p q c) = (drI (cS c) s p q).toNat ∧ cL (qnG t v u s p q c) = cL c ∧ cP (qnG t v u s p q c) = cP c ∧ cF (qnG t v u s p q c) = cF c := by
  have a2 := cS_lt c
  have := drI_b (s := s) (p := p) (q := q) (show cS c ≤ 16383 by omega) hq
  have a3 := cL_lt c
  have a4 := cP_lt c
  have a5 := cF_lt c
  unfold qnG
  rw [if_pos h]
  exact ⟨cT_O (by omega) a4 a3 a5, cS_O (by omega) a4 a3 a5, cL_O a3 a5, cP_O a4 a3 a5, cF_O a5⟩
/-- which notes lie in the range -/
def flB (t v u : Int) (F : Nat → Nat) (i : Nat) : Nat → Int32 := fun j => if j < i then bI (cIn (F j) t v u) else iI 0
section
variable {d n w : Nat} {g : Nat × Nat} {h : aHf} {r : Nat × Nat × Nat × Nat} {y : Nat} {M : Md}
theorem qf_65 {t v u : Int} {m q : Nat} {F : Nat → Nat} {X : Nat → Int32} {l4 l5 l6 l10 : Option Value} {l7 : Int32} (hA : M.2.1 = nB m F X) (hm : m ≤ 60) (hF : ∀ i, cOk (F i)) (hr : rgOk t v u) (hq : y + 531 ≤ q) : ∀ s i : Nat, i + s = m → L (d + 2) 213 65 [some (.ref y), some (.int (iI t)), some (.int (iI v)), some (.int (iI u)), l4, l5, l6, some (.int l7), some (.ref q), some (.int (iI i)), l10] [] (mdW (aup h q (aI .boolean 60 (flB t v u F i))) y M, r) =
    L (d + 2) 213 96 [some (.ref y), some (.int (iI t)), some (.int (iI v)), some (.int (iI u)), l4, l5, l6, some (.int l7), some (.ref q), some (.int (iI m)), l10] [] (mdW (aup h q (aI .boolean 60 (flB t v u F m))) y M, r) := by
  have g0 : gI (some (aI .int 385 (nB m F X))) (iI 0) = some (iI m) := gI_0 (by omega)
  intro s
  induction s with
  | zero =>
    intro i hi
    obtain rfl : i = m := by omega
    rw [r213_65]
    simp (disch := omega) only [r213_67, r213_68, r213_71, r213_72, r213_73, md_0, md_1, hA, g0, iI_le, Int.le_refl, kl_n, kl_i, kl_r, kl_z, kl_l, kl_d, catS_0, catS_c, cat_i, cat_l, cat_d, cat_r, cat_n, kC_r, kC_x, Option.bind_some, Option.toList_some, Option.toList_none, List.cons_append, List.nil_append, gB0, gB1, gB2, gB3, gB4, rvB, nI_iI, i0, i1, l0_, wr_s, aup_s, and_true, true_and, and_self, eq_self, if_true, if_false, Nat.zero_le, Nat.reduceAdd, Nat.reduceLeDiff, gN_I, gN_L, gN_P, bI_0, bI_ok, z0, z1, Bool.true_eq, Bool.false_eq_true, not_true_eq_false, not_false_eq_true]
  | succ s ih =>
    intro i hi
    have him : i < m := by omega
    have c1 : ¬ (m : Int) ≤ i := by omega
    have e1 : (i : Int) + 1 = ((i + 1 : Nat) : Int) := by omega
    have sz := sZ_Z (N := 60) (f := flB t v u F i) (j := i) (p := cIn (F i) t v u) (by omega) (by omega)
    have ef : upd (flB t v u F i) i (bI (cIn (F i) t v u)) = flB t v u F (i + 1) := by
      funext j
      unfold upd flB
      by_cases e : j = i
      · rw [if_pos e, if_pos (by omega), e]
      · rw [if_neg e]
        by_cases e2 : j < i
        · rw [if_pos e2, if_pos (by omega)]
        · rw [if_neg e2, if_neg (by omega)]
    rw [ef] at sz
    have h9 := ih (i + 1) (by omega)
    rw [r213_65]
    simp (disch := omega) only [r213_67, r213_68, r213_71, r213_72, r213_73, r213_76, r213_78, r213_80, r213_81, r213_83, r213_84, r213_85, r213_86, r213_89, r213_90, r213_93, md_0, md_1, hA, g0, iI_le, c1, r_isIn hA hm him hF hr, md_out hq, aup_s, sz, md_n hq, aup_2, iI_add, e1, h9, kl_n, kl_i, kl_r, kl_z, kl_l, kl_d, catS_0, catS_c, cat_i, cat_l, cat_d, cat_r, cat_n, kC_r, kC_x, Option.bind_some, Option.toList_some, Option.toList_none, List.cons_append, List.nil_append, gB0, gB1, gB2, gB3, gB4, rvB, nI_iI, i0, i1, l0_, wr_s, aup_s, and_true, true_and, and_self, eq_self, if_true, if_false, Nat.zero_le, Nat.reduceAdd, Nat.reduceLeDiff, gN_I, gN_L, gN_P, bI_0, bI_ok, z0, z1, Bool.true_eq, Bool.false_eq_true, not_true_eq_false, not_false_eq_true]
theorem qn_99 {t v u : Int} {s p q m k : Nat} {F : Nat → Nat} {X : Nat → Int32} (hm : m ≤ 60) (hF : ∀ i, cOk (F i)) (hV : ntOk F m) (hs : 1 ≤ s ∧ s ≤ 384) (hp : p ≤ 75) (hq : q ≤ 100) (hk : y + 531 ≤ k) (hB : h k = some (aI .boolean 60 (flB t v u F m))) : ∀ z i : Nat, i + z = m → ∀ l10 : Option Value, ∃ v10, L (d + 2) 213 99 [some (.ref y), some (.int (iI t)), some (.int (iI v)), some (.int (iI u)), some (.int (iI s)), some (.int (iI p)), some (.int (iI q)), some (.int (iI (cntP (qnM t v u s p q) F i))), some (.ref k), some (.int (iI i)), l10] [] (mdW h y (alM M (nB m (mapN F (qnG t v u s p q) i) X)), r) =
    L (d + 2) 213 189 [some (.ref y), some (.int (iI t)), some (.int (iI v)), some (.int (iI u)), some (.int (iI s)), some (.int (iI p)), some (.int (iI q)), some (.int (iI (cntP (qnM t v u s p q) F m))), some (.ref k), some (.int (iI m)), v10] [] (mdW h y (alM M (nB m (mapN F (qnG t v u s p q) m) X)), r) := by
  intro z
  induction z with
  | zero =>
    intro i hi l10
    obtain rfl : i = m := by omega
    have m0 := md_0 (h := h) (y := y) (M := alM M (nB i (mapN F (qnG t v u s p q) i) X))
    have m1 : mdW h y (alM M (nB i (mapN F (qnG t v u s p q) i) X)) (y + 1) = some (aI .int 385 (nB i (mapN F (qnG t v u s p q) i) X)) := md_1
    have g0 : gI (some (aI .int 385 (nB i (mapN F (qnG t v u s p q) i) X))) (iI 0) = some (iI i) := gI_0 (by omega)
    refine ⟨l10, ?_⟩
    rw [r213_99]
    simp (disch := omega) only [r213_101, r213_102, r213_105, r213_106, r213_107, m0, m1, g0, iI_le, Int.le_refl, kl_n, kl_i, kl_r, kl_z, kl_l, kl_d, catS_0, catS_c, cat_i, cat_l, cat_d, cat_r, cat_n, kC_r, kC_x, Option.bind_some, Option.toList_some, Option.toList_none, List.cons_append, List.nil_append, gB0, gB1, gB2, gB3, gB4, rvB, nI_iI, i0, i1, l0_, wr_s, aup_s, and_true, true_and, and_self, eq_self, if_true, if_false, Nat.zero_le, Nat.reduceAdd, Nat.reduceLeDiff, gN_I, gN_L, gN_P, bI_0, bI_ok, z0, z1, Bool.true_eq, Bool.false_eq_true, not_true_eq_false, not_false_eq_true]
  | succ z ih =>
    intro i hi l10
    have him : i < m := by omega
    have c1 : ¬ (m : Int) ≤ i := by omega
    have e1 : (i : Int) + 1 = ((i + 1 : Nat) : Int) := by omega
    have m0 := md_0 (h := h) (y := y) (M := alM M (nB m (mapN F (qnG t v u s p q) i) X))
    have m1 : mdW h y (alM M (nB m (mapN F (qnG t v u s p q) i) X)) (y + 1) = some (aI .int 385 (nB m (mapN F (qnG t v u s p q) i) X)) := md_1
    have g0 : gI (some (aI .int 385 (nB m (mapN F (qnG t v u s p q) i) X))) (iI 0) = some (iI m) := gI_0 (by omega)
    have gz : gZ (mdW h y (alM M (nB m (mapN F (qnG t v u s p q) i) X)) k) (iI (i : Int)) = some (bI (cIn (F i) t v u)) := by
      rw [md_out hk, hB, gZ_Z (by omega) (by omega) (by omega), Int.toNat_natCast]
      exact congrArg some (if_pos him)
    have rp := r_1 (d := d + 1) (h := h) (r := r) (y := y) (M := alM M (nB m (mapN F (qnG t v u s p q) i) X)) (X := X) rfl hm him
    rw [mapN_at] at rp
    by_cases q1 : cIn (F i) t v u
    · have qT := eq_true q1
      have hv := hV i him
      have tg := r_target (d := d) (H := (mdW h y (alM M (nB m (mapN F (qnG t v u s p q) i) X)), r)) hv hs hp
      have nr := nrI_t (s := s) (p := p) hv
      have dr := drI_t (s := s) (p := p) hv hq
      have b1 : (nrI (cS (F i)) s p - cS (F i)) * (q : Int) ≤ 1638300 := by
        have a1 : (nrI (cS (F i)) s p - cS (F i)) * (q : Int) ≤ 16383 * q := Int.mul_le_mul_of_nonneg_right (by omega) (by omega)
        omega
      have b2 : -1638300 ≤ (nrI (cS (F i)) s p - cS (F i)) * (q : Int) := by
        have a1 : (-16383) * (q : Int) ≤ (nrI (cS (F i)) s p - cS (F i)) * q := Int.mul_le_mul_of_nonneg_right (by omega) (by omega)
        omega
      have hd : drI (cS (F i)) s p q = cS (F i) + ((nrI (cS (F i)) s p - cS (F i)) * q).tdiv 100 := rfl
      have f1 : ¬ (100 : Int) = 0 := by omega
      obtain ⟨x, hx⟩ : ∃ x, x = (nrI (cS (F i)) s p - cS (F i)) * (q : Int) := ⟨_, rfl⟩
      rw [← hx] at b1 b2 hd
      have e2 : iI x / iI 100 = iI (x.tdiv 100) := iI_td (by omega) (by omega) (by omega) (by omega)
      obtain ⟨by_, hby⟩ : ∃ b, b = x.tdiv 100 := ⟨_, rfl⟩
      rw [← hby] at hd e2
      have st := s_setA (d := d + 1) (h := h) (r := r) (y := y) (M := alM M (nB m (mapN F (qnG t v u s p q) i) X)) (i := i) (j := 1) (v := iI (cFact (qnG t v u s p q (F i)) 1)) (by omega)
      by_cases q2 : drI (cS (F i)) s p q = cS (F i)
      · have nM : ¬ qnM t v u s p q (F i) = true := fun w => (of_decide_eq_true w).2 q2
        have h9 := ih (i + 1) (by omega) (some (.int (iI by_)))
        rw [cntP_f nM] at h9
        have z0 : by_ = 0 := by omega
        rw [show upd (alM M (nB m (mapN F (qnG t v u s p q) i) X)).2.1 (1 + 5 * i + 1) (iI (cFact (qnG t v u s p q (F i)) 1)) = nB m (mapN F (qnG t v u s p q) (i + 1)) X from mp_set him (by omega) (fun k h1 h2 => by rw [qnG_n nM])] at st
        rw [qnG_n nM, cF1, show ((1 : Nat) : Int) = 1 from rfl] at st
        have st2 : aE (d + 2) 198 [.ref y, .int (iI i), .int (iI 1), .int (iI (cS (F i)))] (mdW h y (alM M (nB m (mapN F (qnG t v u s p q) i) X)), r) = some (.inl none, (mdW h y (alM M (nB m (mapN F (qnG t v u s p q) (i + 1)) X)), r)) := st
        have e3 : (cS (F i) : Int) + 0 = cS (F i) := by omega
        have e4 : ((cntP (qnM t v u s p q) F i : Nat) : Int) + 0 = ((cntP (qnM t v u s p q) F i : Nat) : Int) := by omega
        obtain ⟨v10, h9⟩ := h9
        refine ⟨v10, ?_⟩
        rw [z0] at e2 h9
        rw [r213_99]
        simp (disch := omega) only [r213_101, r213_102, r213_105, r213_106, r213_107, r213_110, r213_112, r213_114, r213_115, r213_118, r213_121, r213_122, r213_124, r213_125, r213_128, r213_130, r213_132, r213_135, r213_136, r213_138, r213_139, r213_142, r213_143, r213_145, r213_146, r213_148, r213_149, r213_151, r213_152, r213_154, r213_155, r213_156, r213_158, r213_159, r213_162, r213_164, r213_165, r213_168, r213_170, r213_172, r213_175, r213_176, r213_179, r213_180, r213_181, r213_183, r213_186, m0, m1, g0, iI_le, c1, gz, qT, rp, tg, iI_sub, iI_mul, ← hx, iI_eq, f1, e2, iI_add, e3, st2, e4, e1, h9, kl_n, kl_i, kl_r, kl_z, kl_l, kl_d, catS_0, catS_c, cat_i, cat_l, cat_d, cat_r, cat_n, kC_r, kC_x, Option.bind_some, Option.toList_some, Option.toList_none, List.cons_append, List.nil_append, gB0, gB1, gB2, gB3, gB4, rvB, nI_iI, i0, i1, l0_, wr_s, aup_s, and_true, true_and, and_self, eq_self, if_true, if_false, Nat.zero_le, Nat.reduceAdd, Nat.reduceLeDiff, gN_I, gN_L, gN_P, bI_0, bI_ok, z0, z1, Bool.true_eq, Bool.false_eq_true, not_true_eq_false, not_false_eq_true]
      · have nM : qnM t v u s p q (F i) = true := decide_eq_true ⟨q1, q2⟩
        have h9 := ih (i + 1) (by omega) (some (.int (iI by_)))
        rw [cntP_t nM] at h9
        have z0 : ¬ by_ = 0 := by omega
        obtain ⟨y1, y2, y3, y4, y5⟩ := qnG_f (hF i) hq nM
        rw [show upd (alM M (nB m (mapN F (qnG t v u s p q) i) X)).2.1 (1 + 5 * i + 1) (iI (cFact (qnG t v u s p q (F i)) 1)) = nB m (mapN F (qnG t v u s p q) (i + 1)) X from mp_set him (by omega) (fun k h1 h2 => by
          obtain rfl | rfl | rfl | rfl : k = 0 ∨ k = 2 ∨ k = 3 ∨ k = 4 := by omega
          · rw [cF0, cF0, y1]
          · rw [cF2, cF2, y3]
          · rw [cF3, cF3, y4]
          · rw [cF4, cF4, y5])] at st
        rw [cF1, y2, show (((drI (cS (F i)) s p q).toNat : Nat) : Int) = (cS (F i) : Int) + by_ by omega, show ((1 : Nat) : Int) = 1 from rfl] at st
        have st2 : aE (d + 2) 198 [.ref y, .int (iI i), .int (iI 1), .int (iI ((cS (F i) : Int) + by_))] (mdW h y (alM M (nB m (mapN F (qnG t v u s p q) i) X)), r) = some (.inl none, (mdW h y (alM M (nB m (mapN F (qnG t v u s p q) (i + 1)) X)), r)) := st
        have e4 : ((cntP (qnM t v u s p q) F i : Nat) : Int) + 1 = ((cntP (qnM t v u s p q) F i + 1 : Nat) : Int) := by omega
        obtain ⟨v10, h9⟩ := h9
        refine ⟨v10, ?_⟩
        rw [r213_99]
        simp (disch := omega) only [r213_101, r213_102, r213_105, r213_106, r213_107, r213_110, r213_112, r213_114, r213_115, r213_118, r213_121, r213_122, r213_124, r213_125, r213_128, r213_130, r213_132, r213_135, r213_136, r213_138, r213_139, r213_142, r213_143, r213_145, r213_146, r213_148, r213_149, r213_151, r213_152, r213_154, r213_155, r213_156, r213_158, r213_159, r213_162, r213_164, r213_165, r213_168, r213_170, r213_172, r213_175, r213_176, r213_179, r213_180, r213_181, r213_183, r213_186, m0, m1, g0, iI_le, c1, gz, qT, rp, tg, iI_sub, iI_mul, ← hx, iI_eq, f1, e2, iI_add, st2, z0, e4, e1, h9, kl_n, kl_i, kl_r, kl_z, kl_l, kl_d, catS_0, catS_c, cat_i, cat_l, cat_d, cat_r, cat_n, kC_r, kC_x, Option.bind_some, Option.toList_some, Option.toList_none, List.cons_append, List.nil_append, gB0, gB1, gB2, gB3, gB4, rvB, nI_iI, i0, i1, l0_, wr_s, aup_s, and_true, true_and, and_self, eq_self, if_true, if_false, Nat.zero_le, Nat.reduceAdd, Nat.reduceLeDiff, gN_I, gN_L, gN_P, bI_0, bI_ok, z0, z1, Bool.true_eq, Bool.false_eq_true, not_true_eq_false, not_false_eq_true]
    · have qF := eq_false q1
      have nM : ¬ qnM t v u s p q (F i) = true := fun w => q1 (of_decide_eq_true w).1
      obtain ⟨v10, h9⟩ := ih (i + 1) (by omega) l10
      rw [cntP_f nM] at h9
      refine ⟨v10, ?_⟩
      rw [r213_99]
      simp (disch := omega) only [r213_101, r213_102, r213_105, r213_106, r213_107, r213_110, r213_112, r213_114, r213_115, r213_118, r213_121, r213_122, r213_124, r213_125, r213_128, r213_130, r213_132, r213_135, r213_136, r213_138, r213_139, r213_142, r213_143, r213_145, r213_146, r213_148, r213_149, r213_151, r213_152, r213_154, r213_155, r213_156, r213_158, r213_159, r213_162, r213_164, r213_165, r213_168, r213_170, r213_172, r213_175, r213_176, r213_179, r213_180, r213_181, r213_183, r213_186, m0, m1, g0, iI_le, c1, gz, qF, iI_add, e1, kl_n, kl_i, kl_r, kl_z, kl_l, kl_d, catS_0, catS_c, cat_i, cat_l, cat_d, cat_r, cat_n, kC_r, kC_x, Option.bind_some, Option.toList_some, Option.toList_none, List.cons_append, List.nil_append, gB0, gB1, gB2, gB3, gB4, rvB, nI_iI, i0, i1, l0_, wr_s, aup_s, and_true, true_and, and_self, eq_self, if_true, if_false, Nat.zero_le, Nat.reduceAdd, Nat.reduceLeDiff, gN_I, gN_L, gN_P, bI_0, bI_ok, z0, z1, Bool.true_eq, Bool.false_eq_true, not_true_eq_false, not_false_eq_true]
      rw [mapN_z (F := F) (g := qnG t v u s p q) (k := i) (qnG_n nM)]
      exact h9
theorem r_quantise {t v u : Int} {s p q m uu : Nat} {F : Nat → Nat} {X : Nat → Int32} (hy : y + 531 ≤ n) (hA : M.2.1 = nB m F X) (hm : m ≤ 60) (hF : ∀ i, cOk (F i)) (hV : ntOk F m) (hr : rgOk t v u) (hs : 1 ≤ s ∧ s ≤ 384) (hp : p ≤ 75) (hq : q ≤ 100) (hu : M.1.2.1 = iI uu) (hbu : uu ≤ 20) (hU : ∀ i, i < 21 → M.2.2.2.1.1 i < 21) :
    ∃ z, z ≤ invN (mapN F (qnG t v u s p q) m) m ∧ aE (d + 9) 213 [.ref y, .int (iI t), .int (iI v), .int (iI u), .int (iI s), .int (iI p), .int (iI q)] (mdW h y M, n, w, g) = some (.inl (some (.int (iI (cntP (qnM t v u s p q) F m)))),
      (mdW h y (dnM (alM (bgM M) (nB m (srtN (mapN F (qnG t v u s p q) m) m) X)) uu), n + 2 + z, w + 360 + 5 * z, g)) := by
  have qr := eq_true (show -1 ≤ t ∧ t ≤ 5 ∧ 0 ≤ v ∧ v < u ∧ u ≤ 9600 from hr)
  have hr2 : -1 ≤ t ∧ t ≤ 5 ∧ 0 ≤ v ∧ v < u ∧ u ≤ 9600 := hr
  have q1 : (1 : Int) ≤ s ∧ (s : Int) ≤ 384 := by omega
  have q2 : (0 : Int) ≤ p ∧ (p : Int) ≤ 75 := by omega
  have q3 : (0 : Int) ≤ q ∧ (q : Int) ≤ 100 := by omega
  have e5 : (iI 60).toNatClampNeg = 60 := by decide
  have e6 : ¬ (iI 60 < iI 0 ∨ 60000000 < 60) := by decide
  have bg := r_begin (d := d + 7) (n := n) (w := w) (g := g) (h := h) (y := y) (M := M)
  have hA2 : (bgM M).2.1 = nB m F X := hA
  have k0 := qf_65 (d := d + 6) (h := h) (r := (n + 1, w + 60, g)) (y := y) (M := bgM M) (m := m) (q := n) (F := F) (X := X) (t := t) (v := v) (u := u) (l4 := some (.int (iI s))) (l5 := some (.int (iI p))) (l6 := some (.int (iI q))) (l10 := none) (l7 := iI 0) hA2 hm hF hr hy m 0 (by omega)
  rw [show flB t v u F 0 = fun _ => iI 0 from funext fun j => if_neg (Nat.not_lt_zero j), show ((0 : Nat) : Int) = 0 from rfl] at k0
  obtain ⟨v10, k1⟩ := qn_99 (d := d + 6) (h := aup h n (aI .boolean 60 (flB t v u F m))) (r := (n + 1, w + 60, g)) (y := y) (M := bgM M) (m := m) (k := n) (F := F) (X := X) (t := t) (v := v) (u := u) (s := s) (p := p) (q := q) hm hF hV hs hp hq hy aup_s m 0 (by omega) none
  have em : alM (bgM M) (nB m (mapN F (qnG t v u s p q) 0) X) = bgM M := by
    rw [mapN_0, ← hA]
    rfl
  rw [em, show ((cntP (qnM t v u s p q) F 0 : Nat) : Int) = 0 from rfl, show ((0 : Nat) : Int) = 0 from rfl] at k1
  have hG : ∀ i, cOk (mapN F (qnG t v u s p q) m i) := mapN_ok (fun c hc => qnG_ok hq hc) hF
  obtain ⟨z, z1, so⟩ := r_sort (d := d + 4) (g := g) (n := n + 1) (w := w + 60) (h := aup h n (aI .boolean 60 (flB t v u F m))) (y := y) (M := alM (bgM M) (nB m (mapN F (qnG t v u s p q) m) X)) (m := m) (F := mapN F (qnG t v u s p q) m) (X := X) (by omega) hm hG rfl
  have so2 : aE (d + 8) 203 [.ref y] (mdW (aup h n (aI .boolean 60 (flB t v u F m))) y (alM (bgM M) (nB m (mapN F (qnG t v u s p q) m) X)), n + 1, w + 60, g) = some (.inl none, (mdW (aup h n (aI .boolean 60 (flB t v u F m))) y (alM (bgM M) (nB m (srtN (mapN F (qnG t v u s p q) m) m) X)), n + 1 + 1 + z, w + 60 + 300 + 5 * z, g)) := so
  have m2 := fun A => md_0 (h := aup h n (aI .boolean 60 (flB t v u F m))) (y := y) (M := alM (bgM M) A)
  have dn := r_done (d := d + 1) (n := n + 1 + 1 + z) (w := w + 60 + 300 + 5 * z) (g := g) (h := aup h n (aI .boolean 60 (flB t v u F m))) (y := y) (M := alM (bgM M) (nB m (srtN (mapN F (qnG t v u s p q) m) m) X)) (t := iI (cntP (qnM t v u s p q) F m)) hu hbu hU
  refine ⟨z, z1, ?_⟩
  have hL : L (d + 8) 213 0 [some (.ref y), some (.int (iI t)), some (.int (iI v)), some (.int (iI u)), some (.int (iI s)), some (.int (iI p)), some (.int (iI q)), none, none, none, none] [] (mdW h y M, n, w, g) = some (.inl (some (.int (iI (cntP (qnM t v u s p q) F m)))), (mdW (aup h n (aI .boolean 60 (flB t v u F m))) y (dnM (alM (bgM M) (nB m (srtN (mapN F (qnG t v u s p q) m) m) X)) uu), n + 2 + z, w + 360 + 5 * z, g)) := by
    simp (disch := omega) only [r213_0, r213_1, r213_4, r213_5, r213_6, r213_7, r213_10, r213_13, r213_15, r213_16, r213_19, r213_22, r213_25, r213_27, r213_28, r213_30, r213_33, r213_36, r213_38, r213_39, r213_41, r213_44, r213_47, r213_48, r213_49, r213_52, r213_53, r213_54, r213_56, r213_58, r213_60, r213_62, r213_63, md_0, bg, s_mRange, qr, s_mis, q1, q2, q3, e5, e6, md_n hy, k0, kl_n, kl_i, kl_r, kl_z, kl_l, kl_d, catS_0, catS_c, cat_i, cat_l, cat_d, cat_r, cat_n, kC_r, kC_x, Option.bind_some, Option.toList_some, Option.toList_none, List.cons_append, List.nil_append, gB0, gB1, gB2, gB3, gB4, rvB, nI_iI, i0, i1, l0_, wr_s, aup_s, and_true, true_and, and_self, eq_self, if_true, if_false, Nat.zero_le, Nat.reduceAdd, Nat.reduceLeDiff, gN_I, gN_L, gN_P, bI_0, bI_ok, z0, z1, Bool.true_eq, Bool.false_eq_true, not_true_eq_false, not_false_eq_true]
    simp (disch := omega) only [r213_96, r213_97, k1, kl_n, kl_i, kl_r, kl_z, kl_l, kl_d, catS_0, catS_c, cat_i, cat_l, cat_d, cat_r, cat_n, kC_r, kC_x, Option.bind_some, Option.toList_some, Option.toList_none, List.cons_append, List.nil_append, gB0, gB1, gB2, gB3, gB4, rvB, nI_iI, i0, i1, l0_, wr_s, aup_s, and_true, true_and, and_self, eq_self, if_true, if_false, Nat.zero_le, Nat.reduceAdd, Nat.reduceLeDiff, gN_I, gN_L, gN_P, bI_0, bI_ok, z0, z1, Bool.true_eq, Bool.false_eq_true, not_true_eq_false, not_false_eq_true]
    simp (disch := omega) only [r213_189, r213_190, r213_193, r213_194, r213_196, r213_199, m2, so2, dn, kl_n, kl_i, kl_r, kl_z, kl_l, kl_d, catS_0, catS_c, cat_i, cat_l, cat_d, cat_r, cat_n, kC_r, kC_x, Option.bind_some, Option.toList_some, Option.toList_none, List.cons_append, List.nil_append, gB0, gB1, gB2, gB3, gB4, rvB, nI_iI, i0, i1, l0_, wr_s, aup_s, and_true, true_and, and_self, eq_self, if_true, if_false, Nat.zero_le, Nat.reduceAdd, Nat.reduceLeDiff, gN_I, gN_L, gN_P, bI_0, bI_ok, z0, z1, Bool.true_eq, Bool.false_eq_true, not_true_eq_false, not_false_eq_true]
  rw [e213, hL, fin_mt hy]
theorem r_quantise_1 {t v u s p q : Int} (hy : y + 531 ≤ n) (b1 : -2147483648 ≤ t ∧ t < 2147483648) (b2 : -2147483648 ≤ v ∧ v < 2147483648) (b3 : -2147483648 ≤ u ∧ u < 2147483648) (b4 : -2147483648 ≤ s ∧ s < 2147483648) (b5 : -2147483648 ≤ p ∧ p < 2147483648) (b6 : -2147483648 ≤ q ∧ q < 2147483648) (hc : ¬ (rgOk t v u ∧ (1 ≤ s ∧ s ≤ 384) ∧ (0 ≤ p ∧ p ≤ 75) ∧ (0 ≤ q ∧ q ≤ 100))) :
    aE (d + 9) 213 [.ref y, .int (iI t), .int (iI v), .int (iI u), .int (iI s), .int (iI p), .int (iI q)] (mdW h y M, n, w, g) = some (.inl (some (.int (iI 0))), (mdW h y (rfM 1 (bgM M)), n, w, g)) := by
  have bg := r_begin (d := d + 7) (n := n) (w := w) (g := g) (h := h) (y := y) (M := M)
  have m0 := md_0 (h := h) (y := y) (M := bgM M)
  have rf := r_refuse (d := d + 7) (h := h) (r := (n, w, g)) (y := y) (M := bgM M) (k := 1)
  have rr : L (d + 8) 213 47 [some (.ref y), some (.int (iI t)), some (.int (iI v)), some (.int (iI u)), some (.int (iI s)), some (.int (iI p)), some (.int (iI q)), none, none, none, none] [] (mdW h y (bgM M), n, w, g) = some (.inl (some (.int (iI 0))), (mdW h y (rfM 1 (bgM M)), n, w, g)) := by
    simp (disch := omega) only [r213_47, r213_48, r213_49, r213_52, m0, rf, kl_n, kl_i, kl_r, kl_z, kl_l, kl_d, catS_0, catS_c, cat_i, cat_l, cat_d, cat_r, cat_n, kC_r, kC_x, Option.bind_some, Option.toList_some, Option.toList_none, List.cons_append, List.nil_append, gB0, gB1, gB2, gB3, gB4, rvB, nI_iI, i0, i1, l0_, wr_s, aup_s, and_true, true_and, and_self, eq_self, if_true, if_false, Nat.zero_le, Nat.reduceAdd, Nat.reduceLeDiff, gN_I, gN_L, gN_P, bI_0, bI_ok, z0, z1, Bool.true_eq, Bool.false_eq_true, not_true_eq_false, not_false_eq_true]
    rfl
  have hL : L (d + 8) 213 0 [some (.ref y), some (.int (iI t)), some (.int (iI v)), some (.int (iI u)), some (.int (iI s)), some (.int (iI p)), some (.int (iI q)), none, none, none, none] [] (mdW h y M, n, w, g) = some (.inl (some (.int (iI 0))), (mdW h y (rfM 1 (bgM M)), n, w, g)) := by
    by_cases q0 : -1 ≤ t ∧ t ≤ 5 ∧ 0 ≤ v ∧ v < u ∧ u ≤ 9600
    · have qT := eq_true q0
      by_cases q1 : 1 ≤ s ∧ s ≤ 384
      · have q1T := eq_true q1
        by_cases q2 : 0 ≤ p ∧ p ≤ 75
        · have q2T := eq_true q2
          have q3F := eq_false (fun z => hc ⟨q0, q1, q2, z⟩ : ¬ (0 ≤ q ∧ q ≤ 100))
          simp (disch := omega) only [r213_0, r213_1, r213_4, r213_5, r213_6, r213_7, r213_10, r213_13, r213_15, r213_16, r213_19, r213_22, r213_25, r213_27, r213_28, r213_30, r213_33, r213_36, r213_38, r213_39, r213_41, r213_44, md_0, bg, s_mRange, qT, s_mis, q1T, q2T, q3F, rr, kl_n, kl_i, kl_r, kl_z, kl_l, kl_d, catS_0, catS_c, cat_i, cat_l, cat_d, cat_r, cat_n, kC_r, kC_x, Option.bind_some, Option.toList_some, Option.toList_none, List.cons_append, List.nil_append, gB0, gB1, gB2, gB3, gB4, rvB, nI_iI, i0, i1, l0_, wr_s, aup_s, and_true, true_and, and_self, eq_self, if_true, if_false, Nat.zero_le, Nat.reduceAdd, Nat.reduceLeDiff, gN_I, gN_L, gN_P, bI_0, bI_ok, z0, z1, Bool.true_eq, Bool.false_eq_true, not_true_eq_false, not_false_eq_true]
        · have q2F := eq_false q2
          simp (disch := omega) only [r213_0, r213_1, r213_4, r213_5, r213_6, r213_7, r213_10, r213_13, r213_15, r213_16, r213_19, r213_22, r213_25, r213_27, r213_28, r213_30, r213_33, r213_36, r213_38, r213_39, r213_41, r213_44, md_0, bg, s_mRange, qT, s_mis, q1T, q2F, rr, kl_n, kl_i, kl_r, kl_z, kl_l, kl_d, catS_0, catS_c, cat_i, cat_l, cat_d, cat_r, cat_n, kC_r, kC_x, Option.bind_some, Option.toList_some, Option.toList_none, List.cons_append, List.nil_append, gB0, gB1, gB2, gB3, gB4, rvB, nI_iI, i0, i1, l0_, wr_s, aup_s, and_true, true_and, and_self, eq_self, if_true, if_false, Nat.zero_le, Nat.reduceAdd, Nat.reduceLeDiff, gN_I, gN_L, gN_P, bI_0, bI_ok, z0, z1, Bool.true_eq, Bool.false_eq_true, not_true_eq_false, not_false_eq_true]
      · have q1F := eq_false q1
        simp (disch := omega) only [r213_0, r213_1, r213_4, r213_5, r213_6, r213_7, r213_10, r213_13, r213_15, r213_16, r213_19, r213_22, r213_25, r213_27, r213_28, r213_30, r213_33, r213_36, r213_38, r213_39, r213_41, r213_44, md_0, bg, s_mRange, qT, s_mis, q1F, rr, kl_n, kl_i, kl_r, kl_z, kl_l, kl_d, catS_0, catS_c, cat_i, cat_l, cat_d, cat_r, cat_n, kC_r, kC_x, Option.bind_some, Option.toList_some, Option.toList_none, List.cons_append, List.nil_append, gB0, gB1, gB2, gB3, gB4, rvB, nI_iI, i0, i1, l0_, wr_s, aup_s, and_true, true_and, and_self, eq_self, if_true, if_false, Nat.zero_le, Nat.reduceAdd, Nat.reduceLeDiff, gN_I, gN_L, gN_P, bI_0, bI_ok, z0, z1, Bool.true_eq, Bool.false_eq_true, not_true_eq_false, not_false_eq_true]
    · have qF := eq_false q0
      simp (disch := omega) only [r213_0, r213_1, r213_4, r213_5, r213_6, r213_7, r213_10, r213_13, r213_15, r213_16, r213_19, r213_22, r213_25, r213_27, r213_28, r213_30, r213_33, r213_36, r213_38, r213_39, r213_41, r213_44, md_0, bg, s_mRange, qF, rr, kl_n, kl_i, kl_r, kl_z, kl_l, kl_d, catS_0, catS_c, cat_i, cat_l, cat_d, cat_r, cat_n, kC_r, kC_x, Option.bind_some, Option.toList_some, Option.toList_none, List.cons_append, List.nil_append, gB0, gB1, gB2, gB3, gB4, rvB, nI_iI, i0, i1, l0_, wr_s, aup_s, and_true, true_and, and_self, eq_self, if_true, if_false, Nat.zero_le, Nat.reduceAdd, Nat.reduceLeDiff, gN_I, gN_L, gN_P, bI_0, bI_ok, z0, z1, Bool.true_eq, Bool.false_eq_true, not_true_eq_false, not_false_eq_true]
  rw [e213, hL, fin_mm hy]
end
