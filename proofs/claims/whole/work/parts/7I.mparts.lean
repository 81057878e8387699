/-! ===== the library merges two sorted parts of rows ===== -/
/-- two parts of C, from a up to b and from b up to c, merged into S as far as p -/
def MJ (C S0 S : Nat → Nat) (a b c l q p : Nat) : Prop :=
  (a ≤ l ∧ l ≤ b ∧ b ≤ q ∧ q ≤ c ∧ p + b = l + q) ∧ (∀ i, i < a ∨ p ≤ i → S i = S0 i) ∧ (∀ i j, a ≤ i → i < j → j < p → S i ≤ S j) ∧
  (∀ i j, a ≤ i → i < p → (l ≤ j ∧ j < b ∨ q ≤ j ∧ j < c) → S i ≤ C j) ∧ ∀ v, cn S v p + cn C v a + cn C v b = cn S v a + cn C v l + cn C v q
theorem MJ_0 {C S : Nat → Nat} {a b c : Nat} (h : a ≤ b ∧ b ≤ c) : MJ C S S a b c a b a :=
  ⟨by omega, fun _ _ => rfl, fun i j h1 h2 h3 => by omega, fun i j h1 h2 => by omega, fun v => by omega⟩
theorem MJ_l {C S0 S : Nat → Nat} {a b c l q p : Nat} (h : MJ C S0 S a b c l q p) (hl : l < b) (hs : sor C a b) (hq : ∀ j, q ≤ j → j < c → C l ≤ C j) : MJ C S0 (upN S p (C l)) a b c (l + 1) q (p + 1) := by
  obtain ⟨⟨h1, h2, h3, h4, h5⟩, k1, k2, k3, k4⟩ := h
  refine ⟨⟨by omega, by omega, h3, h4, by omega⟩, fun i hi => ?_, fun i j hi hij hj => ?_, fun i j hi hij hj => ?_, fun v => ?_⟩
  · rw [upN_o (by omega), k1 i (by omega)]
  · rw [upN_o (show i ≠ p by omega)]
    by_cases e : j = p
    · rw [e, upN_at]
      exact k3 i l hi (by omega) (Or.inl ⟨Nat.le_refl l, hl⟩)
    · rw [upN_o e]
      exact k2 i j hi hij (by omega)
  · by_cases e : i = p
    · rw [e, upN_at]
      rcases hj with hj | hj
      · exact hs l j (by omega) (by omega) hj.2
      · exact hq j hj.1 hj.2
    · rw [upN_o e]
      exact k3 i j hi (by omega) (hj.imp (fun z => ⟨by omega, z.2⟩) id)
  · rw [cn_s, cn_up (Nat.le_refl p), upN_at, cn_up (show a ≤ p by omega), cn_s]
    have := k4 v
    omega
theorem MJ_r {C S0 S : Nat → Nat} {a b c l q p : Nat} (h : MJ C S0 S a b c l q p) (hl : q < c) (hs : sor C b c) (hq : ∀ j, l ≤ j → j < b → C q ≤ C j) : MJ C S0 (upN S p (C q)) a b c l (q + 1) (p + 1) := by
  obtain ⟨⟨h1, h2, h3, h4, h5⟩, k1, k2, k3, k4⟩ := h
  refine ⟨⟨h1, h2, by omega, by omega, by omega⟩, fun i hi => ?_, fun i j hi hij hj => ?_, fun i j hi hij hj => ?_, fun v => ?_⟩
  · rw [upN_o (by omega), k1 i (by omega)]
  · rw [upN_o (show i ≠ p by omega)]
    by_cases e : j = p
    · rw [e, upN_at]
      exact k3 i q hi (by omega) (Or.inr ⟨Nat.le_refl q, hl⟩)
    · rw [upN_o e]
      exact k2 i j hi hij (by omega)
  · by_cases e : i = p
    · rw [e, upN_at]
      rcases hj with hj | hj
      · exact hq j hj.1 hj.2
      · exact hs q j (by omega) (by omega) hj.2
    · rw [upN_o e]
      exact k3 i j hi (by omega) (hj.imp id (fun z => ⟨by omega, z.2⟩))
  · rw [cn_s, cn_up (Nat.le_refl p), upN_at, cn_up (show a ≤ p by omega), cn_s]
    have := k4 v
    omega
/-- what is there already is left where it is -/
theorem MJ_k {C S0 S : Nat → Nat} {a b c : Nat} (hs : sor C b c) (hC : ∀ i, b ≤ i → i < c → C i = S0 i) : ∀ m q, q + m = c → MJ C S0 S a b c b q q → MJ C S0 S a b c b c c := by
  intro m
  induction m with
  | zero =>
    intro q hq h
    obtain rfl : q = c := by omega
    exact h
  | succ m ih =>
    intro q hq h
    have h2 := MJ_r h (by omega) hs (fun j h1 h2 => by omega)
    have g := h.1
    rw [hC q (by omega) (by omega), ← h.2.1 q (Or.inr (Nat.le_refl _)), upN_id] at h2
    exact ih (q + 1) (by omega) h2
/-- two rows -/
theorem lw_c {h : aHf} {p q N K : Nat} {A B : Nat → Nat} (hpq : p ≠ q) : lw (lw h p N A) q K B = lw (lw h q K B) p N A := by
  funext z
  unfold lw aup
  by_cases e : z = q
  · rw [if_pos e, if_neg (by omega), if_pos e]
  · rw [if_neg e]
    by_cases e2 : z = p
    · rw [if_pos e2, if_pos e2]
    · rw [if_neg e2, if_neg e2, if_neg e]
theorem lw_2 {h : aHf} {p N : Nat} {A B : Nat → Nat} : lw (lw h p N A) p N B = lw h p N B := aup_2
theorem lw_g2 {h : aHf} {p q N K j : Nat} {A B : Nat → Nat} (hpq : q ≠ p) (hj : j < K) (hN : K ≤ 2000) : gL (lw (lw h q K B) p N A q) (iI (j : Int)) = some (lI (B j)) := by
  rw [lw_o hpq, lw_g hj hN]
theorem lw_i {h : aHf} {p N : Nat} {A : Nat → Nat} : (lw h p N A p).isSome = true := by
  rw [lw_at]
  rfl
theorem lw_i2 {h : aHf} {p q N K : Nat} {A B : Nat → Nat} (hpq : q ≠ p) : (lw (lw h q K B) p N A q).isSome = true := by
  rw [lw_o hpq]
  exact lw_i
section
variable {d : Nat} {h : aHf} {r : Nat × Nat × Nat × Nat} {t s Nt Ns : Nat} {l9 l10 l11 l12 l13 l14 : Option Value}
/-- the second part lies in the row that is written -/
theorem mpD_171 {a b c : Nat} {S D0 C : Nat → Nat} (hts : s ≠ t) (hN : Nt ≤ 2000 ∧ Ns ≤ 2000) (hab : a ≤ b ∧ b ≤ c ∧ b ≤ Ns ∧ c ≤ Nt) (hS : ∀ i, bd (S i)) (hD0 : ∀ i, bd (D0 i)) (hl : ∀ i, i < b → C i = S i) (hr : ∀ i, b ≤ i → C i = D0 i) (s1 : sor C a b) (s2 : sor C b c) :
    ∀ (m l q p : Nat) (D : Nat → Nat), m = (b - l) + (c - q) → MJ C D0 D a b c l q p → ∃ D' p', MJ C D0 D' a b c b c c ∧ L d 286 171 [some .null, some (.ref t), some (.int (iI p)), some (.ref s), some (.int (iI l)), some (.int (iI b)), some (.ref t), some (.int (iI q)), some (.int (iI c)), l9, l10, l11, l12, l13, l14] [] (lw (lw h s Ns S) t Nt D, r) =
      some (.inl none, (lw (lw h s Ns S) t Nt D', r)) ∧ p' = c := by
  intro m
  induction m with
  | zero =>
    intro l q p D hm hM
    have g := hM.1
    obtain rfl : l = b := by omega
    obtain rfl : q = c := by omega
    obtain rfl : p = q := by omega
    refine ⟨D, p, hM, ?_, rfl⟩
    rw [r286_171]
    simp (disch := omega) only [r286_173, r286_175, r286_178, r286_180, r286_182, r286_185, r286_185n, r286_186, r286_187, r286_190, r286_190n, r286_191, r286_193, r286_194, r286_194n, r286_196, r286_198, r286_199, r286_200, r286_203, r286_203n, r286_204, r286_206, r286_209, r286_210, r286_213, r286_213n, r286_215, r286_217, r286_220, r286_221, r286_222, r286_225, r286_225n, r286_226, r286_226n, r286_227, r286_230, r286_231, r286_233, iI_le, Int.le_refl, lw_i, lw_i2 hts, hts.symm, kl_n, kl_i, kl_r, kl_z, kl_l, kl_d, catS_0, catS_c, cat_i, cat_l, cat_d, cat_r, cat_n, kC_r, kC_x, Option.bind_some, Option.toList_some, Option.toList_none, List.cons_append, List.nil_append, gB0, gB1, gB2, gB3, gB4, rvB, nI_iI, i0, i1, l0_, wr_s, aup_s, and_true, true_and, and_self, eq_self, if_true, if_false, Nat.zero_le, Nat.reduceAdd, Nat.reduceLeDiff, gN_I, gN_L, gN_P, bI_0, bI_ok, z0, z1, Bool.true_eq, Bool.false_eq_true, not_true_eq_false, not_false_eq_true]
    rw [r286_236]
    simp (disch := omega) only [r286_238, r286_240, r286_243, r286_243n, r286_244, r286_245, r286_248, r286_248n, r286_249, r286_251, r286_254, r286_255, r286_256, r286_259, r286_259n, r286_260, r286_260n, r286_262, r286_265, r286_266, r286_268, iI_le, Int.le_refl, lw_i, kl_n, kl_i, kl_r, kl_z, kl_l, kl_d, catS_0, catS_c, cat_i, cat_l, cat_d, cat_r, cat_n, kC_r, kC_x, Option.bind_some, Option.toList_some, Option.toList_none, List.cons_append, List.nil_append, gB0, gB1, gB2, gB3, gB4, rvB, nI_iI, i0, i1, l0_, wr_s, aup_s, and_true, true_and, and_self, eq_self, if_true, if_false, Nat.zero_le, Nat.reduceAdd, Nat.reduceLeDiff, gN_I, gN_L, gN_P, bI_0, bI_ok, z0, z1, Bool.true_eq, Bool.false_eq_true, not_true_eq_false, not_false_eq_true]
    simp (disch := omega) only [r286_295, kl_n, kl_i, kl_r, kl_z, kl_l, kl_d, catS_0, catS_c, cat_i, cat_l, cat_d, cat_r, cat_n, kC_r, kC_x, Option.bind_some, Option.toList_some, Option.toList_none, List.cons_append, List.nil_append, gB0, gB1, gB2, gB3, gB4, rvB, nI_iI, i0, i1, l0_, wr_s, aup_s, and_true, true_and, and_self, eq_self, if_true, if_false, Nat.zero_le, Nat.reduceAdd, Nat.reduceLeDiff, gN_I, gN_L, gN_P, bI_0, bI_ok, z0, z1, Bool.true_eq, Bool.false_eq_true, not_true_eq_false, not_false_eq_true]
  | succ m ih =>
    intro l q p D hm hM
    have g := hM.1
    have b1 : S l < 4398046511104 := hS _
    have b2 : D0 q < 4398046511104 := hD0 _
    have n1 : (p : Int) + 1 = ((p + 1 : Nat) : Int) := by omega
    have n2 : (l : Int) + 1 = ((l + 1 : Nat) : Int) := by omega
    have n3 : (q : Int) + 1 = ((q + 1 : Nat) : Int) := by omega
    have dq : D q = D0 q := hM.2.1 q (by omega)
    by_cases q1 : l = b
    · subst q1
      obtain rfl : p = q := by omega
      have hM2 := MJ_k s2 (fun i h1 _ => hr i h1) (c - p) p (by omega) hM
      refine ⟨D, c, hM2, ?_, rfl⟩
      rw [r286_171]
      simp (disch := omega) only [r286_173, r286_175, r286_178, r286_180, r286_182, r286_185, r286_185n, r286_186, r286_187, r286_190, r286_190n, r286_191, r286_193, r286_194, r286_194n, r286_196, r286_198, r286_199, r286_200, r286_203, r286_203n, r286_204, r286_206, r286_209, r286_210, r286_213, r286_213n, r286_215, r286_217, r286_220, r286_221, r286_222, r286_225, r286_225n, r286_226, r286_226n, r286_227, r286_230, r286_231, r286_233, iI_le, Int.le_refl, lw_i, lw_i2 hts, hts.symm, kl_n, kl_i, kl_r, kl_z, kl_l, kl_d, catS_0, catS_c, cat_i, cat_l, cat_d, cat_r, cat_n, kC_r, kC_x, Option.bind_some, Option.toList_some, Option.toList_none, List.cons_append, List.nil_append, gB0, gB1, gB2, gB3, gB4, rvB, nI_iI, i0, i1, l0_, wr_s, aup_s, and_true, true_and, and_self, eq_self, if_true, if_false, Nat.zero_le, Nat.reduceAdd, Nat.reduceLeDiff, gN_I, gN_L, gN_P, bI_0, bI_ok, z0, z1, Bool.true_eq, Bool.false_eq_true, not_true_eq_false, not_false_eq_true]
      rw [r286_236]
      simp (disch := omega) only [r286_238, r286_240, r286_243, r286_243n, r286_244, r286_245, r286_248, r286_248n, r286_249, r286_251, r286_254, r286_255, r286_256, r286_259, r286_259n, r286_260, r286_260n, r286_262, r286_265, r286_266, r286_268, iI_le, Int.le_refl, lw_i, kl_n, kl_i, kl_r, kl_z, kl_l, kl_d, catS_0, catS_c, cat_i, cat_l, cat_d, cat_r, cat_n, kC_r, kC_x, Option.bind_some, Option.toList_some, Option.toList_none, List.cons_append, List.nil_append, gB0, gB1, gB2, gB3, gB4, rvB, nI_iI, i0, i1, l0_, wr_s, aup_s, and_true, true_and, and_self, eq_self, if_true, if_false, Nat.zero_le, Nat.reduceAdd, Nat.reduceLeDiff, gN_I, gN_L, gN_P, bI_0, bI_ok, z0, z1, Bool.true_eq, Bool.false_eq_true, not_true_eq_false, not_false_eq_true]
      simp (disch := omega) only [r286_295, kl_n, kl_i, kl_r, kl_z, kl_l, kl_d, catS_0, catS_c, cat_i, cat_l, cat_d, cat_r, cat_n, kC_r, kC_x, Option.bind_some, Option.toList_some, Option.toList_none, List.cons_append, List.nil_append, gB0, gB1, gB2, gB3, gB4, rvB, nI_iI, i0, i1, l0_, wr_s, aup_s, and_true, true_and, and_self, eq_self, if_true, if_false, Nat.zero_le, Nat.reduceAdd, Nat.reduceLeDiff, gN_I, gN_L, gN_P, bI_0, bI_ok, z0, z1, Bool.true_eq, Bool.false_eq_true, not_true_eq_false, not_false_eq_true]
    · have c1 : ¬ (b : Int) ≤ l := by omega
      have vl : C l = S l := hl l (by omega)
      by_cases q2 : q = c
      · subst q2
        have hM2 := MJ_l hM (by omega) s1 (fun j h1 h2 => by omega)
        rw [vl] at hM2
        have key : ∀ (m l p : Nat) (D : Nat → Nat), m + l = b → MJ C D0 D a b q l q p → ∃ D', MJ C D0 D' a b q b q q ∧ L d 286 236 [some .null, some (.ref t), some (.int (iI p)), some (.ref s), some (.int (iI l)), some (.int (iI b)), some (.ref t), some (.int (iI q)), some (.int (iI q)), l9, l10, l11, l12, l13, l14] [] (lw (lw h s Ns S) t Nt D, r) =
            some (.inl none, (lw (lw h s Ns S) t Nt D', r)) := by
          intro m
          induction m with
          | zero =>
            intro l p D h1 h2
            obtain rfl : l = b := by omega
            have g := h2.1
            obtain rfl : p = q := by omega
            refine ⟨D, h2, ?_⟩
            rw [r286_236]
            simp (disch := omega) only [r286_238, r286_240, r286_243, r286_243n, r286_244, r286_245, r286_248, r286_248n, r286_249, r286_251, r286_254, r286_255, r286_256, r286_259, r286_259n, r286_260, r286_260n, r286_262, r286_265, r286_266, r286_268, iI_le, Int.le_refl, lw_i, kl_n, kl_i, kl_r, kl_z, kl_l, kl_d, catS_0, catS_c, cat_i, cat_l, cat_d, cat_r, cat_n, kC_r, kC_x, Option.bind_some, Option.toList_some, Option.toList_none, List.cons_append, List.nil_append, gB0, gB1, gB2, gB3, gB4, rvB, nI_iI, i0, i1, l0_, wr_s, aup_s, and_true, true_and, and_self, eq_self, if_true, if_false, Nat.zero_le, Nat.reduceAdd, Nat.reduceLeDiff, gN_I, gN_L, gN_P, bI_0, bI_ok, z0, z1, Bool.true_eq, Bool.false_eq_true, not_true_eq_false, not_false_eq_true]
            simp (disch := omega) only [r286_295, kl_n, kl_i, kl_r, kl_z, kl_l, kl_d, catS_0, catS_c, cat_i, cat_l, cat_d, cat_r, cat_n, kC_r, kC_x, Option.bind_some, Option.toList_some, Option.toList_none, List.cons_append, List.nil_append, gB0, gB1, gB2, gB3, gB4, rvB, nI_iI, i0, i1, l0_, wr_s, aup_s, and_true, true_and, and_self, eq_self, if_true, if_false, Nat.zero_le, Nat.reduceAdd, Nat.reduceLeDiff, gN_I, gN_L, gN_P, bI_0, bI_ok, z0, z1, Bool.true_eq, Bool.false_eq_true, not_true_eq_false, not_false_eq_true]
          | succ m ih =>
            intro l p D h1 h2
            have g := h2.1
            have c1 : ¬ (b : Int) ≤ l := by omega
            have n1 : (p : Int) + 1 = ((p + 1 : Nat) : Int) := by omega
            have n2 : (l : Int) + 1 = ((l + 1 : Nat) : Int) := by omega
            have h3 := MJ_l h2 (by omega) s1 (fun j h1 h2 => by omega)
            rw [hl l (by omega)] at h3
            obtain ⟨D', k1, k2⟩ := ih (l + 1) (p + 1) _ (by omega) h3
            refine ⟨D', k1, ?_⟩
            rw [r286_236]
            simp (disch := omega) only [r286_238, r286_240, r286_243, r286_243n, r286_244, r286_245, r286_248, r286_248n, r286_249, r286_251, r286_254, r286_255, r286_256, iI_le, c1, lw_g2 hts, lw_s, lw_u, iI_add, n1, n2, k2, kl_n, kl_i, kl_r, kl_z, kl_l, kl_d, catS_0, catS_c, cat_i, cat_l, cat_d, cat_r, cat_n, kC_r, kC_x, Option.bind_some, Option.toList_some, Option.toList_none, List.cons_append, List.nil_append, gB0, gB1, gB2, gB3, gB4, rvB, nI_iI, i0, i1, l0_, wr_s, aup_s, and_true, true_and, and_self, eq_self, if_true, if_false, Nat.zero_le, Nat.reduceAdd, Nat.reduceLeDiff, gN_I, gN_L, gN_P, bI_0, bI_ok, z0, z1, Bool.true_eq, Bool.false_eq_true, not_true_eq_false, not_false_eq_true]
        obtain ⟨D', k1, k2⟩ := key (b - l) l p D (by omega) hM
        refine ⟨D', q, k1, ?_, rfl⟩
        rw [r286_171]
        simp (disch := omega) only [r286_173, r286_175, r286_178, r286_180, r286_182, r286_185, r286_185n, r286_186, r286_187, r286_190, r286_190n, r286_191, r286_193, r286_194, r286_194n, r286_196, r286_198, r286_199, r286_200, r286_203, r286_203n, r286_204, r286_206, r286_209, r286_210, r286_213, r286_213n, r286_215, r286_217, r286_220, r286_221, r286_222, r286_225, r286_225n, r286_226, r286_226n, r286_227, r286_230, r286_231, r286_233, iI_le, c1, Int.le_refl, lw_i, lw_i2 hts, hts.symm, k2, kl_n, kl_i, kl_r, kl_z, kl_l, kl_d, catS_0, catS_c, cat_i, cat_l, cat_d, cat_r, cat_n, kC_r, kC_x, Option.bind_some, Option.toList_some, Option.toList_none, List.cons_append, List.nil_append, gB0, gB1, gB2, gB3, gB4, rvB, nI_iI, i0, i1, l0_, wr_s, aup_s, and_true, true_and, and_self, eq_self, if_true, if_false, Nat.zero_le, Nat.reduceAdd, Nat.reduceLeDiff, gN_I, gN_L, gN_P, bI_0, bI_ok, z0, z1, Bool.true_eq, Bool.false_eq_true, not_true_eq_false, not_false_eq_true]
      · have c2 : ¬ (c : Int) ≤ q := by omega
        have vq : C q = D0 q := hr q (by omega)
        have rd : gL (lw (lw h s Ns S) t Nt D t) (iI (q : Int)) = some (lI (D0 q)) := by rw [lw_g (by omega) hN.1, dq]
        by_cases q3 : D0 q ≤ S l
        · have hM2 := MJ_r hM (by omega) s2 (fun j h1 h2 => by
            by_cases z : j = l
            · rw [z, vl, vq]
              exact q3
            · have := s1 l j (by omega) (by omega) h2
              omega)
          rw [vq] at hM2
          obtain ⟨D', p', k1, k2, k3⟩ := ih l (q + 1) (p + 1) _ (by omega) hM2
          refine ⟨D', p', k1, ?_, k3⟩
          rw [r286_171]
          simp (disch := omega) only [r286_173, r286_175, r286_178, r286_180, r286_182, r286_185, r286_185n, r286_186, r286_187, r286_190, r286_190n, r286_191, r286_193, r286_194, r286_194n, r286_196, r286_198, r286_199, r286_200, r286_203, r286_203n, r286_204, r286_206, r286_209, r286_210, r286_213, r286_213n, r286_215, r286_217, r286_220, r286_221, r286_222, iI_le, c1, c2, lw_g2 hts, rd, lc_ge, eL_le, q3, iI_add, n1, n3, lw_s, lw_u, k2, kl_n, kl_i, kl_r, kl_z, kl_l, kl_d, catS_0, catS_c, cat_i, cat_l, cat_d, cat_r, cat_n, kC_r, kC_x, Option.bind_some, Option.toList_some, Option.toList_none, List.cons_append, List.nil_append, gB0, gB1, gB2, gB3, gB4, rvB, nI_iI, i0, i1, l0_, wr_s, aup_s, and_true, true_and, and_self, eq_self, if_true, if_false, Nat.zero_le, Nat.reduceAdd, Nat.reduceLeDiff, gN_I, gN_L, gN_P, bI_0, bI_ok, z0, z1, Bool.true_eq, Bool.false_eq_true, not_true_eq_false, not_false_eq_true]
        · have hM2 := MJ_l hM (by omega) s1 (fun j h1 h2 => by
            by_cases z : j = q
            · rw [z, vl, vq]
              omega
            · have := s2 q j (by omega) (by omega) h2
              omega)
          rw [vl] at hM2
          obtain ⟨D', p', k1, k2, k3⟩ := ih (l + 1) q (p + 1) _ (by omega) hM2
          refine ⟨D', p', k1, ?_, k3⟩
          rw [r286_171]
          simp (disch := omega) only [r286_173, r286_175, r286_178, r286_180, r286_182, r286_185, r286_185n, r286_186, r286_187, r286_190, r286_190n, r286_191, r286_193, r286_194, r286_194n, r286_196, r286_198, r286_199, r286_200, r286_203, r286_203n, r286_204, r286_206, r286_209, r286_210, r286_213, r286_213n, r286_215, r286_217, r286_220, r286_221, r286_222, iI_le, c1, c2, lw_g2 hts, rd, lc_ge, eL_le, q3, iI_add, n1, n2, lw_s, lw_u, k2, kl_n, kl_i, kl_r, kl_z, kl_l, kl_d, catS_0, catS_c, cat_i, cat_l, cat_d, cat_r, cat_n, kC_r, kC_x, Option.bind_some, Option.toList_some, Option.toList_none, List.cons_append, List.nil_append, gB0, gB1, gB2, gB3, gB4, rvB, nI_iI, i0, i1, l0_, wr_s, aup_s, and_true, true_and, and_self, eq_self, if_true, if_false, Nat.zero_le, Nat.reduceAdd, Nat.reduceLeDiff, gN_I, gN_L, gN_P, bI_0, bI_ok, z0, z1, Bool.true_eq, Bool.false_eq_true, not_true_eq_false, not_false_eq_true]
/-- the second part lies in the row that is read -/
theorem mpS_171 {a b c : Nat} {S D0 : Nat → Nat} (hts : s ≠ t) (hN : Nt ≤ 2000 ∧ Ns ≤ 2000) (hab : a ≤ b ∧ b ≤ c ∧ c ≤ Ns ∧ c ≤ Nt) (hS : ∀ i, bd (S i)) (s1 : sor S a b) (s2 : sor S b c) :
    ∀ (m l q p : Nat) (D : Nat → Nat), m = (b - l) + (c - q) → MJ S D0 D a b c l q p → ∃ D', MJ S D0 D' a b c b c c ∧ L d 286 171 [some .null, some (.ref t), some (.int (iI p)), some (.ref s), some (.int (iI l)), some (.int (iI b)), some (.ref s), some (.int (iI q)), some (.int (iI c)), l9, l10, l11, l12, l13, l14] [] (lw (lw h s Ns S) t Nt D, r) =
      some (.inl none, (lw (lw h s Ns S) t Nt D', r)) := by
  have k271 : ∀ (m q p : Nat) (D : Nat → Nat), m + q = c → MJ S D0 D a b c b q p → ∃ D', MJ S D0 D' a b c b c c ∧ L d 286 271 [some .null, some (.ref t), some (.int (iI p)), some (.ref s), some (.int (iI b)), some (.int (iI b)), some (.ref s), some (.int (iI q)), some (.int (iI c)), l9, l10, l11, l12, l13, l14] [] (lw (lw h s Ns S) t Nt D, r) =
      some (.inl none, (lw (lw h s Ns S) t Nt D', r)) := by
    intro m
    induction m with
    | zero =>
      intro q p D h1 h2
      obtain rfl : q = c := by omega
      have g := h2.1
      obtain rfl : p = q := by omega
      refine ⟨D, h2, ?_⟩
      rw [r286_271]
      simp (disch := omega) only [r286_273, r286_275, r286_278, r286_278n, r286_279, r286_280, r286_283, r286_283n, r286_285, r286_287, r286_290, r286_291, r286_292, r286_295, iI_le, Int.le_refl, kl_n, kl_i, kl_r, kl_z, kl_l, kl_d, catS_0, catS_c, cat_i, cat_l, cat_d, cat_r, cat_n, kC_r, kC_x, Option.bind_some, Option.toList_some, Option.toList_none, List.cons_append, List.nil_append, gB0, gB1, gB2, gB3, gB4, rvB, nI_iI, i0, i1, l0_, wr_s, aup_s, and_true, true_and, and_self, eq_self, if_true, if_false, Nat.zero_le, Nat.reduceAdd, Nat.reduceLeDiff, gN_I, gN_L, gN_P, bI_0, bI_ok, z0, z1, Bool.true_eq, Bool.false_eq_true, not_true_eq_false, not_false_eq_true]
    | succ m ih =>
      intro q p D h1 h2
      have g := h2.1
      have c1 : ¬ (c : Int) ≤ q := by omega
      have n1 : (p : Int) + 1 = ((p + 1 : Nat) : Int) := by omega
      have n2 : (q : Int) + 1 = ((q + 1 : Nat) : Int) := by omega
      obtain ⟨D', k1, k2⟩ := ih (q + 1) (p + 1) _ (by omega) (MJ_r h2 (by omega) s2 (fun j h1 h2 => by omega))
      refine ⟨D', k1, ?_⟩
      rw [r286_271]
      simp (disch := omega) only [r286_273, r286_275, r286_278, r286_278n, r286_279, r286_280, r286_283, r286_283n, r286_285, r286_287, r286_290, r286_291, r286_292, iI_le, c1, lw_g2 hts, lw_s, lw_u, iI_add, n1, n2, k2, kl_n, kl_i, kl_r, kl_z, kl_l, kl_d, catS_0, catS_c, cat_i, cat_l, cat_d, cat_r, cat_n, kC_r, kC_x, Option.bind_some, Option.toList_some, Option.toList_none, List.cons_append, List.nil_append, gB0, gB1, gB2, gB3, gB4, rvB, nI_iI, i0, i1, l0_, wr_s, aup_s, and_true, true_and, and_self, eq_self, if_true, if_false, Nat.zero_le, Nat.reduceAdd, Nat.reduceLeDiff, gN_I, gN_L, gN_P, bI_0, bI_ok, z0, z1, Bool.true_eq, Bool.false_eq_true, not_true_eq_false, not_false_eq_true]
  have k236 : ∀ (m l p : Nat) (D : Nat → Nat), m + l = b → MJ S D0 D a b c l c p → ∃ D', MJ S D0 D' a b c b c c ∧ L d 286 236 [some .null, some (.ref t), some (.int (iI p)), some (.ref s), some (.int (iI l)), some (.int (iI b)), some (.ref s), some (.int (iI c)), some (.int (iI c)), l9, l10, l11, l12, l13, l14] [] (lw (lw h s Ns S) t Nt D, r) =
      some (.inl none, (lw (lw h s Ns S) t Nt D', r)) := by
    intro m
    induction m with
    | zero =>
      intro l p D h1 h2
      obtain rfl : l = b := by omega
      obtain ⟨D', k1, k2⟩ := k271 0 c p D (by omega) h2
      refine ⟨D', k1, ?_⟩
      rw [r286_236]
      simp (disch := omega) only [r286_238, r286_240, r286_243, r286_243n, r286_244, r286_245, r286_248, r286_248n, r286_249, r286_251, r286_254, r286_255, r286_256, r286_259, r286_259n, r286_260, r286_260n, r286_262, r286_265, r286_266, r286_268, iI_le, Int.le_refl, lw_i, lw_i2 hts, hts.symm, k2, kl_n, kl_i, kl_r, kl_z, kl_l, kl_d, catS_0, catS_c, cat_i, cat_l, cat_d, cat_r, cat_n, kC_r, kC_x, Option.bind_some, Option.toList_some, Option.toList_none, List.cons_append, List.nil_append, gB0, gB1, gB2, gB3, gB4, rvB, nI_iI, i0, i1, l0_, wr_s, aup_s, and_true, true_and, and_self, eq_self, if_true, if_false, Nat.zero_le, Nat.reduceAdd, Nat.reduceLeDiff, gN_I, gN_L, gN_P, bI_0, bI_ok, z0, z1, Bool.true_eq, Bool.false_eq_true, not_true_eq_false, not_false_eq_true]
    | succ m ih =>
      intro l p D h1 h2
      have g := h2.1
      have c1 : ¬ (b : Int) ≤ l := by omega
      have n1 : (p : Int) + 1 = ((p + 1 : Nat) : Int) := by omega
      have n2 : (l : Int) + 1 = ((l + 1 : Nat) : Int) := by omega
      obtain ⟨D', k1, k2⟩ := ih (l + 1) (p + 1) _ (by omega) (MJ_l h2 (by omega) s1 (fun j h1 h2 => by omega))
      refine ⟨D', k1, ?_⟩
      rw [r286_236]
      simp (disch := omega) only [r286_238, r286_240, r286_243, r286_243n, r286_244, r286_245, r286_248, r286_248n, r286_249, r286_251, r286_254, r286_255, r286_256, iI_le, c1, lw_g2 hts, lw_s, lw_u, iI_add, n1, n2, k2, kl_n, kl_i, kl_r, kl_z, kl_l, kl_d, catS_0, catS_c, cat_i, cat_l, cat_d, cat_r, cat_n, kC_r, kC_x, Option.bind_some, Option.toList_some, Option.toList_none, List.cons_append, List.nil_append, gB0, gB1, gB2, gB3, gB4, rvB, nI_iI, i0, i1, l0_, wr_s, aup_s, and_true, true_and, and_self, eq_self, if_true, if_false, Nat.zero_le, Nat.reduceAdd, Nat.reduceLeDiff, gN_I, gN_L, gN_P, bI_0, bI_ok, z0, z1, Bool.true_eq, Bool.false_eq_true, not_true_eq_false, not_false_eq_true]
  intro m
  induction m with
  | zero =>
    intro l q p D hm hM
    have g := hM.1
    obtain rfl : l = b := by omega
    obtain rfl : q = c := by omega
    obtain ⟨D', k1, k2⟩ := k236 0 l p D (by omega) hM
    refine ⟨D', k1, ?_⟩
    rw [r286_171]
    simp (disch := omega) only [r286_173, r286_175, r286_178, r286_180, r286_182, r286_185, r286_185n, r286_186, r286_187, r286_190, r286_190n, r286_191, r286_193, r286_194, r286_194n, r286_196, r286_198, r286_199, r286_200, r286_203, r286_203n, r286_204, r286_206, r286_209, r286_210, r286_213, r286_213n, r286_215, r286_217, r286_220, r286_221, r286_222, r286_225, r286_225n, r286_226, r286_226n, r286_227, r286_230, r286_231, r286_233, iI_le, Int.le_refl, lw_i, lw_i2 hts, hts.symm, k2, kl_n, kl_i, kl_r, kl_z, kl_l, kl_d, catS_0, catS_c, cat_i, cat_l, cat_d, cat_r, cat_n, kC_r, kC_x, Option.bind_some, Option.toList_some, Option.toList_none, List.cons_append, List.nil_append, gB0, gB1, gB2, gB3, gB4, rvB, nI_iI, i0, i1, l0_, wr_s, aup_s, and_true, true_and, and_self, eq_self, if_true, if_false, Nat.zero_le, Nat.reduceAdd, Nat.reduceLeDiff, gN_I, gN_L, gN_P, bI_0, bI_ok, z0, z1, Bool.true_eq, Bool.false_eq_true, not_true_eq_false, not_false_eq_true]
  | succ m ih =>
    intro l q p D hm hM
    have g := hM.1
    have b1 : S l < 4398046511104 := hS _
    have b2 : S q < 4398046511104 := hS _
    have n1 : (p : Int) + 1 = ((p + 1 : Nat) : Int) := by omega
    have n2 : (l : Int) + 1 = ((l + 1 : Nat) : Int) := by omega
    have n3 : (q : Int) + 1 = ((q + 1 : Nat) : Int) := by omega
    by_cases q1 : l = b
    · subst q1
      have c2 : ¬ (c : Int) ≤ q := by omega
      obtain ⟨D', k1, k2⟩ := k271 (c - q) q p D (by omega) hM
      refine ⟨D', k1, ?_⟩
      rw [r286_171]
      simp (disch := omega) only [r286_173, r286_175, r286_178, r286_180, r286_182, r286_185, r286_185n, r286_186, r286_187, r286_190, r286_190n, r286_191, r286_193, r286_194, r286_194n, r286_196, r286_198, r286_199, r286_200, r286_203, r286_203n, r286_204, r286_206, r286_209, r286_210, r286_213, r286_213n, r286_215, r286_217, r286_220, r286_221, r286_222, r286_225, r286_225n, r286_226, r286_226n, r286_227, r286_230, r286_231, r286_233, iI_le, Int.le_refl, lw_i, lw_i2 hts, hts.symm, kl_n, kl_i, kl_r, kl_z, kl_l, kl_d, catS_0, catS_c, cat_i, cat_l, cat_d, cat_r, cat_n, kC_r, kC_x, Option.bind_some, Option.toList_some, Option.toList_none, List.cons_append, List.nil_append, gB0, gB1, gB2, gB3, gB4, rvB, nI_iI, i0, i1, l0_, wr_s, aup_s, and_true, true_and, and_self, eq_self, if_true, if_false, Nat.zero_le, Nat.reduceAdd, Nat.reduceLeDiff, gN_I, gN_L, gN_P, bI_0, bI_ok, z0, z1, Bool.true_eq, Bool.false_eq_true, not_true_eq_false, not_false_eq_true]
      rw [r286_236]
      simp (disch := omega) only [r286_238, r286_240, r286_243, r286_243n, r286_244, r286_245, r286_248, r286_248n, r286_249, r286_251, r286_254, r286_255, r286_256, r286_259, r286_259n, r286_260, r286_260n, r286_262, r286_265, r286_266, r286_268, iI_le, Int.le_refl, lw_i, lw_i2 hts, hts.symm, k2, kl_n, kl_i, kl_r, kl_z, kl_l, kl_d, catS_0, catS_c, cat_i, cat_l, cat_d, cat_r, cat_n, kC_r, kC_x, Option.bind_some, Option.toList_some, Option.toList_none, List.cons_append, List.nil_append, gB0, gB1, gB2, gB3, gB4, rvB, nI_iI, i0, i1, l0_, wr_s, aup_s, and_true, true_and, and_self, eq_self, if_true, if_false, Nat.zero_le, Nat.reduceAdd, Nat.reduceLeDiff, gN_I, gN_L, gN_P, bI_0, bI_ok, z0, z1, Bool.true_eq, Bool.false_eq_true, not_true_eq_false, not_false_eq_true]
    · have c1 : ¬ (b : Int) ≤ l := by omega
      by_cases q2 : q = c
      · subst q2
        obtain ⟨D', k1, k2⟩ := k236 (b - l) l p D (by omega) hM
        refine ⟨D', k1, ?_⟩
        rw [r286_171]
        simp (disch := omega) only [r286_173, r286_175, r286_178, r286_180, r286_182, r286_185, r286_185n, r286_186, r286_187, r286_190, r286_190n, r286_191, r286_193, r286_194, r286_194n, r286_196, r286_198, r286_199, r286_200, r286_203, r286_203n, r286_204, r286_206, r286_209, r286_210, r286_213, r286_213n, r286_215, r286_217, r286_220, r286_221, r286_222, r286_225, r286_225n, r286_226, r286_226n, r286_227, r286_230, r286_231, r286_233, iI_le, c1, Int.le_refl, lw_i, lw_i2 hts, hts.symm, k2, kl_n, kl_i, kl_r, kl_z, kl_l, kl_d, catS_0, catS_c, cat_i, cat_l, cat_d, cat_r, cat_n, kC_r, kC_x, Option.bind_some, Option.toList_some, Option.toList_none, List.cons_append, List.nil_append, gB0, gB1, gB2, gB3, gB4, rvB, nI_iI, i0, i1, l0_, wr_s, aup_s, and_true, true_and, and_self, eq_self, if_true, if_false, Nat.zero_le, Nat.reduceAdd, Nat.reduceLeDiff, gN_I, gN_L, gN_P, bI_0, bI_ok, z0, z1, Bool.true_eq, Bool.false_eq_true, not_true_eq_false, not_false_eq_true]
      · have c2 : ¬ (c : Int) ≤ q := by omega
        by_cases q3 : S q ≤ S l
        · obtain ⟨D', k1, k2⟩ := ih l (q + 1) (p + 1) _ (by omega) (MJ_r hM (by omega) s2 (fun j h1 h2 => by
            by_cases z : j = l
            · rw [z]
              exact q3
            · have := s1 l j (by omega) (by omega) h2
              omega))
          refine ⟨D', k1, ?_⟩
          rw [r286_171]
          simp (disch := omega) only [r286_173, r286_175, r286_178, r286_180, r286_182, r286_185, r286_185n, r286_186, r286_187, r286_190, r286_190n, r286_191, r286_193, r286_194, r286_194n, r286_196, r286_198, r286_199, r286_200, r286_203, r286_203n, r286_204, r286_206, r286_209, r286_210, r286_213, r286_213n, r286_215, r286_217, r286_220, r286_221, r286_222, iI_le, c1, c2, lw_g2 hts, lc_ge, eL_le, q3, iI_add, n1, n3, lw_s, lw_u, k2, kl_n, kl_i, kl_r, kl_z, kl_l, kl_d, catS_0, catS_c, cat_i, cat_l, cat_d, cat_r, cat_n, kC_r, kC_x, Option.bind_some, Option.toList_some, Option.toList_none, List.cons_append, List.nil_append, gB0, gB1, gB2, gB3, gB4, rvB, nI_iI, i0, i1, l0_, wr_s, aup_s, and_true, true_and, and_self, eq_self, if_true, if_false, Nat.zero_le, Nat.reduceAdd, Nat.reduceLeDiff, gN_I, gN_L, gN_P, bI_0, bI_ok, z0, z1, Bool.true_eq, Bool.false_eq_true, not_true_eq_false, not_false_eq_true]
        · obtain ⟨D', k1, k2⟩ := ih (l + 1) q (p + 1) _ (by omega) (MJ_l hM (by omega) s1 (fun j h1 h2 => by
            by_cases z : j = q
            · rw [z]
              omega
            · have := s2 q j (by omega) (by omega) h2
              omega))
          refine ⟨D', k1, ?_⟩
          rw [r286_171]
          simp (disch := omega) only [r286_173, r286_175, r286_178, r286_180, r286_182, r286_185, r286_185n, r286_186, r286_187, r286_190, r286_190n, r286_191, r286_193, r286_194, r286_194n, r286_196, r286_198, r286_199, r286_200, r286_203, r286_203n, r286_204, r286_206, r286_209, r286_210, r286_213, r286_213n, r286_215, r286_217, r286_220, r286_221, r286_222, iI_le, c1, c2, lw_g2 hts, lc_ge, eL_le, q3, iI_add, n1, n2, lw_s, lw_u, k2, kl_n, kl_i, kl_r, kl_z, kl_l, kl_d, catS_0, catS_c, cat_i, cat_l, cat_d, cat_r, cat_n, kC_r, kC_x, Option.bind_some, Option.toList_some, Option.toList_none, List.cons_append, List.nil_append, gB0, gB1, gB2, gB3, gB4, rvB, nI_iI, i0, i1, l0_, wr_s, aup_s, and_true, true_and, and_self, eq_self, if_true, if_false, Nat.zero_le, Nat.reduceAdd, Nat.reduceLeDiff, gN_I, gN_L, gN_P, bI_0, bI_ok, z0, z1, Bool.true_eq, Bool.false_eq_true, not_true_eq_false, not_false_eq_true]
end
