/-! ===== the law's loop ===== -/
theorem and63 (v : Int32) : ∃ c : Nat, c < 64 ∧ v &&& iI 63 = iI c := by
  refine ⟨v.toBitVec.toNat % 64, by omega, ?_⟩
  apply Int32.toBitVec.inj
  rw [Int32.toBitVec_and, show iI 63 = iI ((63 : Nat) : Int) from rfl, in_bv, in_bv]
  apply BitVec.eq_of_toNat_eq
  have h1 : v.toBitVec.toNat &&& 63 = v.toBitVec.toNat % 64 := Nat.and_two_pow_sub_one_eq_mod _ 6
  rw [BitVec.toNat_and, BitVec.toNat_ofNat, BitVec.toNat_ofNat, Nat.mod_eq_of_lt (a := 63) (by decide), h1, Nat.mod_eq_of_lt (a := v.toBitVec.toNat % 64) (b := 2 ^ 32) (by omega)]
section
variable {b K x y o i n w : Nat} {xs : Nat → Int32} {g : Nat × Nat} {W : Dk} {M : Md} {h : aHf} {l5 l6 l7 l8 : Option Value}
theorem lwE_of {R R' : aR} (h : R = R') (hE : lwE b K xs x y o g i n w W R') : lwE b K xs x y o g i n w W R := h ▸ hE
theorem lw_disp {v : Int32} (hI : lwI h b K xs x y o g) (hR : Rel W M) (hn : o < n) (hi : i + 7 ≤ K) (hK : K ≤ 3584) : lwE b K xs x y o g i n w W (L 400 0 40 [some (.ref b), some (.ref x), some (.ref y), some (.ref o), some (.int (iI i)), l5, l6, l7, l8] [.int (v &&& iI 63)] (dkW (mdW h y M) x W, n, w, g)) := by
  obtain ⟨c, hc, e⟩ := and63 v
  rw [e]
  by_cases c0 : c = 0
  · subst c0
    exact lwE_of r0_40c0 (lc_0 hI hR hn hi hK)
  by_cases c1 : c = 1
  · subst c1
    exact lwE_of r0_40c1 (lc_1 hI hR hn hi hK)
  by_cases c2 : c = 2
  · subst c2
    exact lwE_of r0_40c2 (lc_2 hI hR hn hi hK)
  by_cases c3 : c = 3
  · subst c3
    exact lwE_of r0_40c3 (lc_3 hI hR hn hi hK)
  by_cases c4 : c = 4
  · subst c4
    exact lwE_of r0_40c4 (lc_4 hI hR hn hi hK)
  by_cases c5 : c = 5
  · subst c5
    exact lwE_of r0_40c5 (lc_5 hI hR hn hi hK)
  by_cases c6 : c = 6
  · subst c6
    exact lwE_of r0_40c6 (lc_6 hI hR hn hi hK)
  by_cases c7 : c = 7
  · subst c7
    exact lwE_of r0_40c7 (lc_7 hI hR hn hi hK)
  by_cases c8 : c = 8
  · subst c8
    exact lwE_of r0_40c8 (lc_8 hI hR hn hi hK)
  by_cases c9 : c = 9
  · subst c9
    exact lwE_of r0_40c9 (lc_9 hI hR hn hi hK)
  by_cases c10 : c = 10
  · subst c10
    exact lwE_of r0_40c10 (lc_10 hI hR hn hi hK)
  by_cases c11 : c = 11
  · subst c11
    exact lwE_of r0_40c11 (lc_11 hI hR hn hi hK)
  by_cases c12 : c = 12
  · subst c12
    exact lwE_of r0_40c12 (lc_12 hI hR hn hi hK)
  by_cases c13 : c = 13
  · subst c13
    exact lwE_of r0_40c13 (lc_13 hI hR hn hi hK)
  by_cases c14 : c = 14
  · subst c14
    exact lwE_of r0_40c14 (lc_14 hI hR hn hi hK)
  by_cases c15 : c = 15
  · subst c15
    exact lwE_of r0_40c15 (lc_15 hI hR hn hi hK)
  by_cases c16 : c = 16
  · subst c16
    exact lwE_of r0_40c16 (lc_16 hI hR hn hi hK)
  by_cases c17 : c = 17
  · subst c17
    exact lwE_of r0_40c17 (lc_17 hI hR hn hi hK)
  by_cases c18 : c = 18
  · subst c18
    exact lwE_of r0_40c18 (lc_18 hI hR hn hi hK)
  by_cases c19 : c = 19
  · subst c19
    exact lwE_of r0_40c19 (lc_19 hI hR hn hi hK)
  by_cases c20 : c = 20
  · subst c20
    exact lwE_of r0_40c20 (lc_20 hI hR hn hi hK)
  by_cases c21 : c = 21
  · subst c21
    exact lwE_of r0_40c21 (lc_21 hI hR hn hi hK)
  by_cases c22 : c = 22
  · subst c22
    exact lwE_of r0_40c22 (lc_22 hI hR hn hi hK)
  by_cases c23 : c = 23
  · subst c23
    exact lwE_of r0_40c23 (lc_23 hI hR hn hi hK)
  by_cases c24 : c = 24
  · subst c24
    exact lwE_of r0_40c24 (lc_24 hI hR hn hi hK)
  by_cases c25 : c = 25
  · subst c25
    exact lwE_of r0_40c25 (lc_25 hI hR hn hi hK)
  by_cases c26 : c = 26
  · subst c26
    exact lwE_of r0_40c26 (lc_26 hI hR hn hi hK)
  by_cases c27 : c = 27
  · subst c27
    exact lwE_of r0_40c27 (lc_27 hI hR hn hi hK)
  by_cases c28 : c = 28
  · subst c28
    exact lwE_of r0_40c28 (lc_28 hI hR hn hi hK)
  by_cases c29 : c = 29
  · subst c29
    exact lwE_of r0_40c29 (lc_29 hI hR hn hi hK)
  by_cases c30 : c = 30
  · subst c30
    exact lwE_of r0_40c30 (lc_30 hI hR hn hi hK)
  by_cases c31 : c = 31
  · subst c31
    exact lwE_of r0_40c31 (lc_31 hI hR hn hi hK)
  by_cases c32 : c = 32
  · subst c32
    exact lwE_of r0_40c32 (lc_32 hI hR hn hi hK)
  by_cases c33 : c = 33
  · subst c33
    exact lwE_of r0_40c33 (lc_33 hI hR hn hi hK)
  by_cases c34 : c = 34
  · subst c34
    exact lwE_of r0_40c34 (lc_34 hI hR hn hi hK)
  by_cases c35 : c = 35
  · subst c35
    exact lwE_of r0_40c35 (lc_35 hI hR hn hi hK)
  by_cases c36 : c = 36
  · subst c36
    exact lwE_of r0_40c36 (lc_36 hI hR hn hi hK)
  exact ⟨h, W, M, n, w, l5, l6, l7, l8, r0_40d (Or.inr (by rw [iI_t (by omega) (by omega)]; omega)), hI, hR, Nat.le_refl _, by omega, by omega⟩

theorem lw_exit (hI : lwI h b K xs x y o g) (hi : K < i + 7) (h2 : i ≤ 3600) (hK : K ≤ 3584) : L 400 0 23 [some (.ref b), some (.ref x), some (.ref y), some (.ref o), some (.int (iI i)), l5, l6, l7, l8] [] (dkW (mdW h y M) x W, n, w, g) = some (.inl (some (.int (iI 1))), (dkW (mdW h y M) x W, n, w, g)) := by
  have hb := lw_b (W := W) (M := M) hI
  have c : ((K : Int) - 7 < (i : Int)) = True := eq_true (by omega)
  simp (disch := omega) only [r0_23, r0_25, r0_26, r0_27, r0_29, r0_30, r0_2325, r0_2326, hb, iI_sub, iI_lt, c, kl_n, kl_i, kl_r, kl_z, kl_l, kl_d, catS_0, catS_c, cat_i, cat_l, cat_d, cat_r, cat_n, kC_r, kC_x, Option.bind_some, Option.toList_some, Option.toList_none, List.cons_append, List.nil_append, gB0, gB1, gB2, gB3, gB4, rvB, nI_iI, i0, i1, l0_, wr_s, aup_s, and_true, true_and, and_self, eq_self, if_true, if_false, Nat.zero_le, Nat.reduceAdd, Nat.reduceLeDiff, gN_I, gN_L, gN_P, bI_0, bI_ok, z0, z1, Bool.true_eq, Bool.false_eq_true, not_true_eq_false, not_false_eq_true]
theorem lw_go (hI : lwI h b K xs x y o g) (hi : i + 7 ≤ K) (hK : K ≤ 3584) : L 400 0 23 [some (.ref b), some (.ref x), some (.ref y), some (.ref o), some (.int (iI i)), l5, l6, l7, l8] [] (dkW (mdW h y M) x W, n, w, g) = L 400 0 40 [some (.ref b), some (.ref x), some (.ref y), some (.ref o), some (.int (iI i)), l5, l6, l7, l8] [.int (xs (i : Int).toNat &&& iI 63)] (dkW (mdW h y M) x W, n, w, g) := by
  have hb := lw_b (W := W) (M := M) hI
  have c : ((K : Int) - 7 < (i : Int)) = False := eq_false (by omega)
  simp (disch := omega) only [r0_23, r0_25, r0_26, r0_27, r0_29, r0_30, r0_33, r0_34, r0_36, r0_37, r0_39, hb, iI_sub, iI_lt, c, gI_F, kl_n, kl_i, kl_r, kl_z, kl_l, kl_d, catS_0, catS_c, cat_i, cat_l, cat_d, cat_r, cat_n, kC_r, kC_x, Option.bind_some, Option.toList_some, Option.toList_none, List.cons_append, List.nil_append, gB0, gB1, gB2, gB3, gB4, rvB, nI_iI, i0, i1, l0_, wr_s, aup_s, and_true, true_and, and_self, eq_self, if_true, if_false, Nat.zero_le, Nat.reduceAdd, Nat.reduceLeDiff, gN_I, gN_L, gN_P, bI_0, bI_ok, z0, z1, Bool.true_eq, Bool.false_eq_true, not_true_eq_false, not_false_eq_true]
theorem lw_end {H : aH} : L 400 0 2319 [some (.ref b), some (.ref x), some (.ref y), some (.ref o), some (.int (iI i)), l5, l6, l7, l8] [] H = L 400 0 23 [some (.ref b), some (.ref x), some (.ref y), some (.ref o), some (.int (iI ((i + 7 : Nat) : Int))), l5, l6, l7, l8] [] H := by
  have c : ((i + 7 : Nat) : Int) = (i : Int) + 7 := by omega
  obtain ⟨h, r⟩ := H
  rw [r0_2319, r0_2322, iI_add, c, kl_r]
theorem lw_loop {n0 w0 : Nat} (hK : K ≤ 3584) : ∀ (m j : Nat) (h : aHf) (W : Dk) (M : Md) (n w : Nat) (l5 l6 l7 l8 : Option Value), K ≤ 7 * j + 7 * m + 6 → 7 * j ≤ 3584 → lwI h b K xs x y o g → Rel W M → o < n → 40 * n ≤ 40 * n0 + 46160 * j + 13 * pot W.1 → w ≤ w0 + 12000 * j →
    ∃ H' : aH, L 400 0 23 [some (.ref b), some (.ref x), some (.ref y), some (.ref o), some (.int (iI ((7 * j : Nat) : Int))), l5, l6, l7, l8] [] (dkW (mdW h y M) x W, n, w, g) = some (.inl (some (.int (iI 1))), H') ∧ H'.2.1 ≤ n0 + 592000 ∧ H'.2.2.1 ≤ w0 + 6144000 := by
  have out : ∀ (j : Nat) (h : aHf) (W : Dk) (M : Md) (n w : Nat) (l5 l6 l7 l8 : Option Value), K < 7 * j + 7 → 7 * j ≤ 3584 → lwI h b K xs x y o g → Rel W M → 40 * n ≤ 40 * n0 + 46160 * j + 13 * pot W.1 → w ≤ w0 + 12000 * j →
      ∃ H' : aH, L 400 0 23 [some (.ref b), some (.ref x), some (.ref y), some (.ref o), some (.int (iI ((7 * j : Nat) : Int))), l5, l6, l7, l8] [] (dkW (mdW h y M) x W, n, w, g) = some (.inl (some (.int (iI 1))), H') ∧ H'.2.1 ≤ n0 + 592000 ∧ H'.2.2.1 ≤ w0 + 6144000 := by
    intro j h W M n w l5 l6 l7 l8 h1 h2 hI hR hc hs
    have hp : pot W.1 ≤ 3540 := pot_b hR.1.1.1
    refine ⟨_, lw_exit hI h1 (by omega) hK, ?_, ?_⟩
    · show n ≤ n0 + 592000
      omega
    · show w ≤ w0 + 6144000
      omega
  intro m
  induction m with
  | zero =>
    intro j h W M n w l5 l6 l7 l8 h1 h2 hI hR hn hc hs
    exact out j h W M n w l5 l6 l7 l8 (by omega) h2 hI hR hc hs
  | succ m ih =>
    intro j h W M n w l5 l6 l7 l8 h1 h2 hI hR hn hc hs
    by_cases hi : 7 * j + 7 ≤ K
    · rw [lw_go hI hi hK]
      obtain ⟨h', W', M', n', w', k5, k6, k7, k8, e, hI', hR', q1, q2, q3⟩ := lw_disp (l5 := l5) (l6 := l6) (l7 := l7) (l8 := l8) (w := w) (v := xs ((7 * j : Nat) : Int).toNat) hI hR hn hi hK
      rw [e, lw_end]
      have z1 : o < n' := Nat.lt_of_lt_of_le hn q1
      have z2 : 40 * n' ≤ 40 * n0 + 46160 * (j + 1) + 13 * pot W'.1 := by
        clear e ih
        omega
      have z3 : w' ≤ w0 + 12000 * (j + 1) := by
        rw [Nat.mul_succ, ← Nat.add_assoc]
        exact Nat.le_trans q3 (Nat.add_le_add_right hs 12000)
      exact ih (j + 1) h' W' M' n' w' k5 k6 k7 k8 (by omega) (by omega) hI' hR' z1 z2 z3
    · exact out j h W M n w l5 l6 l7 l8 (by omega) h2 hI hR hc hs
end
theorem law_start {n b stp ua : Nat} {h : aHf} : L 400 0 0 (entL [.ref b] 9) [] (h, n, 0, stp, ua) = L 400 0 23 [some (.ref b), some (.ref n), some (.ref (n + 404)), some (.ref (n + 404 + 531)), some (.int (iI 0)), none, none, none, none] [] (dkW (mdW (aup h (n + 404 + 531) (aL 1 (fun _ => lI 0))) (n + 404) M0) n W0, n + 404 + 531 + 1, 27212, stp, ua) := by
  have nd : aE 400 34 [.ref n] (aup h n (aB 9 [.null, .null, .null, .null, .int (iI 0)]), n + 1, 5, stp, ua) = some (.inl none, (dkW h n W0, n + 404, 5689, stp, ua)) := s_newDesk (d := 392) (a := n) (w := 5) (g := (stp, ua)) (h := h)
  have nr : aE 400 181 [.ref (n + 404)] (aup (dkW h n W0) (n + 404) (aB 10 [.int (iI 0), .null, .null, .null, .null, .int (iI 0), .int (iI 0), .int (iI 0), .null, .int (iI 0), .null, .null, .int (iI 0), .null, .long (lI 0)]), n + 404 + 1, 5704, stp, ua) = some (.inl none, (mdW (dkW h n W0) (n + 404) M0, n + 404 + 531, 27211, stp, ua)) := r_new (d := 399) (y := n + 404) (w := 5704) (g := (stp, ua)) (h := dkW h n W0)
  have c1 : (iI 1).toNatClampNeg = 1 := by decide
  have c2 : (iI 1 < iI 0 ∨ 60000000 < 1) = False := by decide
  have hh : aup (mdW (dkW h n W0) (n + 404) M0) (n + 404 + 531) (aL 1 (fun _ => lI 0)) = dkW (mdW (aup h (n + 404 + 531) (aL 1 (fun _ => lI 0))) (n + 404) M0) n W0 := by
    rw [rg_aupo (by omega), rg_aupo (by omega), dm_comm (by omega)]
  rw [← hh]
  show L 400 0 0 [some (.ref b), none, none, none, none, none, none, none, none] [] (h, n, 0, stp, ua) = _
  simp (disch := omega) only [r0_0, r0_3, r0_4, r0_7, r0_8, r0_11, r0_12, r0_15, r0_16, r0_17, r0_19, r0_20, r0_21, nd, nr, c1, c2, kl_n, kl_i, kl_r, kl_z, kl_l, kl_d, catS_0, catS_c, cat_i, cat_l, cat_d, cat_r, cat_n, kC_r, kC_x, Option.bind_some, Option.toList_some, Option.toList_none, List.cons_append, List.nil_append, gB0, gB1, gB2, gB3, gB4, rvB, nI_iI, i0, i1, l0_, wr_s, aup_s, and_true, true_and, and_self, eq_self, if_true, if_false, Nat.zero_le, Nat.reduceAdd, Nat.reduceLeDiff, gN_I, gN_L, gN_P, bI_0, bI_ok, z0, z1, Bool.true_eq, Bool.false_eq_true, not_true_eq_false, not_false_eq_true]
theorem law_ok : lawGoal := by
  intro n b stp ua K xs h hK hb hs hbn hsn hfr
  have hI : lwI (aup h (n + 404 + 531) (aL 1 (fun _ => lI 0))) b K xs n (n + 404) (n + 404 + 531) (stp, ua) := by
    obtain ⟨f, f1, f2⟩ := hs
    exact ⟨(aup_n (by omega)).trans hb, ⟨_, aup_s⟩, ⟨⟨f, (aup_n (show stp ≠ n + 404 + 531 by omega)).trans f1, f2⟩, Or.inl hsn, Or.inl (show stp < n + 404 by omega)⟩, hsn, hbn, by omega, by omega⟩
  have hp : pot W0.1 = 0 := pot_0
  obtain ⟨H', e, z1, z2⟩ := lw_loop (n0 := n + 936) (w0 := 27212) hK 512 0 _ W0 M0 (n + 404 + 531 + 1) 27212 none none none none (by omega) (by omega) hI Rel_0 (by omega) (by rw [hp]; omega) (by omega)
  have r1 : 592936 ≤ room_1.cells := Nat.le_of_ble_eq_true rfl
  have r2 : 6171212 ≤ room_1.slots := Nat.le_of_ble_eq_true rfl
  refine ⟨H', ?_, by omega, by omega⟩
  exact law_start.trans e
