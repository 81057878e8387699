/-! ===== the law's loop ===== -/
def lwI (h : aHf) (b K : Nat) (xs : Nat → Int32) (x : Nat) (g : Nat × Nat) : Prop := h b = some (aI .float K xs) ∧ (∃ f, h g.1 = some (aI .float 8 f) ∧ ∀ j, j < 8 → f j = st_f j) ∧ b < x ∧ g.1 < x
/-- from here the loop's end comes, and all holds there -/
def lwE (b K : Nat) (xs : Nat → Int32) (x : Nat) (g : Nat × Nat) (i n w : Nat) (X : aR) : Prop :=
  ∃ (h' : aHf) (W' : Dk) (n' w' : Nat) (l3 l4 l5 : Option Value), X = L 400 0 173 [some (.ref b), some (.ref x), some (.int (iI i)), l3, l4, l5] [] (dkW h' x W', n', w', g) ∧ lwI h' b K xs x g ∧ Inv W' ∧ n ≤ n' ∧ n' ≤ n + 3 ∧ w' ≤ w + 17
theorem lcmp_s (X : Int64) : lg_cmp X X = iI 0 := by
  unfold lg_cmp
  simp
  rfl
section
variable {b K x i n w : Nat} {xs : Nat → Int32} {g : Nat × Nat} {W : Dk} {h : aHf} {l3 l4 l5 : Option Value}
theorem lw_b (hI : lwI h b K xs x g) : dkW h x W b = some (aI .float K xs) := (rg_o (Or.inl hI.2.2.1)).trans hI.1
theorem lw_st (hI : lwI h b K xs x g) : ∃ f, (∀ W' : Dk, dkW h x W' g.1 = some (aI .float 8 f)) ∧ ∀ j, j < 8 → f j = st_f j := by
  obtain ⟨f, f1, f2⟩ := hI.2.1
  exact ⟨f, fun W' => (rg_o (Or.inl hI.2.2.2)).trans f1, f2⟩
theorem lw_aup {c : aC} (hI : lwI h b K xs x g) (hn : x + 404 ≤ n) : lwI (aup h n c) b K xs x g := by
  obtain ⟨h1, ⟨f, f1, f2⟩, h3, h4⟩ := hI
  exact ⟨(aup_n (by omega)).trans h1, ⟨f, (aup_n (by omega)).trans f1, f2⟩, h3, h4⟩
/-- taken back, and done again -/
theorem lw_98 {X : Int64} {C : Nat → Nat} {V : Rn} (hL : lwI h b K xs x g) (hI : Inv W) (hC : evS W.1 C) (hX : X = dgV W.1 W.2.1.2.1 W.2.1.2.2.1 C) :
    ∃ (W' : Dk) (n' w' : Nat) (l5' : Option Value), L 400 0 98 [some (.ref b), some (.ref x), some (.int (iI i)), some (.long X), none, l5] [] (dkW h x W, n, w, g) = L 400 0 173 [some (.ref b), some (.ref x), some (.int (iI i)), some (.long X), none, l5'] [] (dkW h x W', n', w', g) ∧ Inv W' ∧ n ≤ n' ∧ n' ≤ n + 1 ∧ w' ≤ w + 6 := by
  have u20 := hI.2.1.1.2.1
  have r20 := hI.2.1.1.2.2.1
  have ur := hI.2.1.2.2
  have z0 : aE 400 61 [.ref x] (dkW h x W, n, w, g) = some (.inl (some (.int (iI W.2.1.2.1))), (dkW h x W, n, w, g)) := s_undos (d := 388)
  by_cases q : (W.2.1.2.1 : Int) ≤ 0
  · refine ⟨W, n, w, l5, ?_, hI, by omega, by omega, by omega⟩
    simp (disch := omega) only [r0_98, r0_99, r0_102, r0_105, r0_106, r0_109, r0_112, r0_113, r0_116, r0_118, r0_119, r0_122, r0_125, r0_126, r0_129, r0_131, r0_133, r0_134, r0_135, r0_138, r0_141, r0_142, r0_145, r0_147, r0_149, r0_152, r0_155, r0_156, r0_159, r0_160, r0_161, r0_164, r0_166, r0_168, r0_171, r0_172, dk_0, z0, iI_le, q, kl_n, kl_i, kl_r, kl_z, kl_l, kl_d, catS_0, catS_c, cat_i, cat_l, cat_d, cat_r, cat_n, kC_r, kC_x, Option.bind_some, Option.toList_some, Option.toList_none, List.cons_append, List.nil_append, gB0, gB1, gB2, gB3, gB4, rvB, nI_iI, i0, i1, l0_, wr_s, aup_s, and_true, true_and, and_self, eq_self, if_true, if_false, Nat.zero_le, Nat.reduceAdd, Nat.reduceLeDiff, gN_I, gN_L, gN_P, bI_0, bI_ok, z0, z1, Bool.true_eq, Bool.false_eq_true, not_true_eq_false, not_false_eq_true]
  · have hb : 0 < W.2.1.2.1 := by omega
    rcases s_isFree (d := 387) (n := n) (w := w) (g := g) (h := h) (x := x) hI with ⟨q2, z1⟩ | ⟨q2, z1⟩
    · have z1 : aE 400 4 [.ref x] (dkW h x W, n, w, g) = some (.inl (some (.int (iI 1))), (dkW h x W, n, w, g)) := z1
      have z2 : aE 400 62 [.ref x] (dkW h x W, n, w, g) = some (.inl (some (.int (iI W.2.1.2.2.1))), (dkW h x W, n, w, g)) := s_redos (d := 388)
      have z3 : aE 400 59 [.ref x] (dkW h x W, n, w, g) = some (.inl (some (.int (iI (W.2.1.2.1 - 1 : Nat)))), (dkW h x (bkW W), n, w, g)) := s_undo (d := 388) (Inv_ok hI) q2 hb
      have I2 := Inv_bk hI hb
      have z4 : aE 400 62 [.ref x] (dkW h x (bkW W), n, w, g) = some (.inl (some (.int (iI (W.2.1.2.2.1 + 1 : Nat)))), (dkW h x (bkW W), n, w, g)) := s_redos (d := 388)
      have hf : 0 < (bkW W).2.1.2.2.1 := Nat.succ_pos _
      have z5 : aE 400 60 [.ref x] (dkW h x (bkW W), n, w, g) = some (.inl (some (.int (iI W.2.1.2.2.1))), (dkW h x (fwW (bkW W)), n, w, g)) := s_redo (d := 388) (Inv_ok I2) q2 hf
      have I3 := Inv_fw I2 hf
      obtain ⟨D, hD⟩ := evS_ex I3
      obtain ⟨f, f1, f2⟩ := lw_st hL
      obtain ⟨V', k1, k2⟩ := q_digest (d := 388) (n := n) (w := w) (g := g) (h := h) (x := x) I3 hD f1 f2
      have ed : dgV (fwW (bkW W)).1 (fwW (bkW W)).2.1.2.1 (fwW (bkW W)).2.1.2.2.1 D = X := by
        have e1 : (fwW (bkW W)).2.1.2.1 = W.2.1.2.1 := by
          show W.2.1.2.1 - 1 + 1 = _
          omega
        have e2 : (fwW (bkW W)).2.1.2.2.1 = W.2.1.2.2.1 := by
          show W.2.1.2.2.1 + 1 - 1 = _
          omega
        rw [e1, e2, hX]
        exact (dgV_c (lk_bf hI q2) hI.1 hC hD).symm
      rw [ed] at k2
      have z6 : aE 400 85 [.ref x] (dkW h x (fwW (bkW W)), n, w, g) = some (.inl (some (.long X)), (dkW h x (pW (fwW (bkW W)) V'), n, w, g)) := k2
      have m1 := s_min (d := 399) (h := dkW h x (bkW W)) (r := (n, w, g)) (a := 20) (b := (W.2.1.2.2.1 : Int) + 1) (by omega) (by omega) (by omega) (by omega)
      have m2 := s_min (d := 399) (h := dkW h x (fwW (bkW W))) (r := (n, w, g)) (a := 19) (b := (W.2.1.2.2.1 : Int)) (by omega) (by omega) (by omega) (by omega)
      rw [Int.min_eq_right (by omega)] at m1 m2
      have m1 : aE 400 264 [.int (iI 20), .int (iI ((W.2.1.2.2.1 : Int) + 1))] (dkW h x (bkW W), n, w, g) = _ := m1
      have m2 : aE 400 264 [.int (iI 19), .int (iI (W.2.1.2.2.1 : Int))] (dkW h x (fwW (bkW W)), n, w, g) = _ := m2
      have e3 : ((W.2.1.2.2.1 + 1 : Nat) : Int) = (W.2.1.2.2.1 : Int) + 1 := rfl
      rw [e3] at z4
      have q3 : ¬ ((W.2.1.2.1 - 1 : Nat) : Int) < 0 := by omega
      have c10 : ¬ (1 : Int) = 0 := by omega
      refine ⟨pW (fwW (bkW W)) V', n, w, some (.int (iI W.2.1.2.2.1)), ?_, Inv_V I3 k1, by omega, by omega, by omega⟩
      simp (disch := omega) only [r0_98, r0_99, r0_102, r0_105, r0_106, r0_109, r0_112, r0_113, r0_116, r0_118, r0_119, r0_122, r0_125, r0_126, r0_129, r0_131, r0_133, r0_134, r0_135, r0_138, r0_141, r0_142, r0_145, r0_147, r0_149, r0_152, r0_155, r0_156, r0_159, r0_160, r0_161, r0_164, r0_166, r0_168, r0_171, r0_172, dk_0, z0, z1, z2, z3, z4, z5, z6, m1, m2, iI_le, iI_lt, iI_eq, iI_add, q, q3, c10, lcmp_s, kl_n, kl_i, kl_r, kl_z, kl_l, kl_d, catS_0, catS_c, cat_i, cat_l, cat_d, cat_r, cat_n, kC_r, kC_x, Option.bind_some, Option.toList_some, Option.toList_none, List.cons_append, List.nil_append, gB0, gB1, gB2, gB3, gB4, rvB, nI_iI, i0, i1, l0_, wr_s, aup_s, and_true, true_and, and_self, eq_self, if_true, if_false, Nat.zero_le, Nat.reduceAdd, Nat.reduceLeDiff, gN_I, gN_L, gN_P, bI_0, bI_ok, z0, z1, Bool.true_eq, Bool.false_eq_true, not_true_eq_false, not_false_eq_true]
    · have z1 : aE 400 4 [.ref x] (dkW h x W, n, w, g) = some (.inl (some (.int (iI 0))), (dkW h x W, n + 1, w + 6, g)) := z1
      refine ⟨W, n + 1, w + 6, l5, ?_, hI, by omega, by omega, by omega⟩
      simp (disch := omega) only [r0_98, r0_99, r0_102, r0_105, r0_106, r0_109, r0_112, r0_113, r0_116, r0_118, r0_119, r0_122, r0_125, r0_126, r0_129, r0_131, r0_133, r0_134, r0_135, r0_138, r0_141, r0_142, r0_145, r0_147, r0_149, r0_152, r0_155, r0_156, r0_159, r0_160, r0_161, r0_164, r0_166, r0_168, r0_171, r0_172, dk_0, z0, z1, iI_le, iI_eq, q, kl_n, kl_i, kl_r, kl_z, kl_l, kl_d, catS_0, catS_c, cat_i, cat_l, cat_d, cat_r, cat_n, kC_r, kC_x, Option.bind_some, Option.toList_some, Option.toList_none, List.cons_append, List.nil_append, gB0, gB1, gB2, gB3, gB4, rvB, nI_iI, i0, i1, l0_, wr_s, aup_s, and_true, true_and, and_self, eq_self, if_true, if_false, Nat.zero_le, Nat.reduceAdd, Nat.reduceLeDiff, gN_I, gN_L, gN_P, bI_0, bI_ok, z0, z1, Bool.true_eq, Bool.false_eq_true, not_true_eq_false, not_false_eq_true]
end
