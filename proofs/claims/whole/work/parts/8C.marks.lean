/-! ===== calls alike: speeds, meters ===== -/
section
variable {d e x y : Nat} {g : Nat × Nat} {W : Dk} {M : Md}
theorem s_setMeter_2z {h : aHf} {n w k : Nat} {z : Int} (hO : dkOk W) (hk : k ≤ 99) (bz : -2147483648 ≤ z ∧ z < 2147483648) (hc : ¬ (0 < k ∧ W.1.2.2.2.1.2.1 (lu W.1.2.2.2.1.2.1 k W.1.2.2.2.1.1) = k)) : aE (d + 12) 55 [.ref x, .int (iI k), .int (iI ((0 : Nat) : Int)), .int (iI z)] (dkW h x W, n, w, g) =
    some (.inr "java/lang/IllegalStateException", (dkW h x W, n + 1, w + 6, g)) := by
  have c8 : 8 ≤ d + 11 := by omega
  have hM := hO.1.2.2.2.2.2.2.1
  have q1 : (0 : Int) ≤ k ∧ (k : Int) ≤ 99 := by omega
  have q2 : (0 : Int) ≤ ((0 : Nat) : Int) ∧ ((0 : Nat) : Int) ≤ 16 := by omega
  have hc' := eq_false hc
  have q5 : ((0 : Nat) : Int) = 0 := rfl
  have q6 : ((0 : Nat) : Int) ≤ 0 := by omega
  have h2 : aE (d + 12) 55 [.ref x, .int (iI k), .int (iI ((0 : Nat) : Int)), .int (iI z)] (dkW h x W, n, w, g) = L (d + 11) 55 66 [some (.ref x), some (.int (iI k)), some (.int (iI ((0 : Nat) : Int))), some (.int (iI z)), none] [] (dkW h x W, n, w, g) := by
    simp (disch := omega) only [e55, r55_0, r55_1, r55_2, r55_4, r55_7, r55_10, r55_11, r55_12, r55_14, r55_17, r55_20, r55_30, r55_31, r55_34, r55_35, r55_36, r55_39, r55_40, r55_41, r55_44, r55_45, r55_47, r55_50, r55_51, r55_53, r55_56, s_isWithin, q1, q2, iI_le, iI_eq, ite_not, kl_n, kl_i, kl_r, kl_z, kl_l, kl_d, catS_0, catS_c, cat_i, cat_l, cat_d, cat_r, cat_n, kC_r, kC_x, Option.bind_some, Option.toList_some, Option.toList_none, List.cons_append, List.nil_append, gB0, gB1, gB2, gB3, gB4, rvB, nI_iI, i0, i1, l0_, wr_s, aup_s, and_true, true_and, and_self, eq_self, if_true, if_false, Nat.zero_le, Nat.reduceAdd, Nat.reduceLeDiff, gN_I, gN_L, gN_P, bI_0, bI_ok, z0, z1, Bool.true_eq, Bool.false_eq_true, not_true_eq_false, not_false_eq_true]
    repeat' split
    all_goals first
      | rfl
      | (exfalso; omega)
  rw [h2]
  simp (disch := omega) only [r55_66, r55_67, r55_70, r55_73, r55_76, r55_78, r55_79, r55_82, r55_84, r55_85, r55_88, r55_91, r55_94, r55_96, r55_97, r55_100, r55_103, r55_113, r55_114, r55_117, r55_119, r55_120, r55_123, r55_126, r55_128, r55_129, r55_130, r55_131, r55_134, r55_135, r55_138, r55_140, r55_143, iI_eq, q5, k_mcd hM (show k < 2147483648 by omega), hc', c8, dk_0, dk_1, dk_13, dk_mtI.1, kl_n, kl_i, kl_r, kl_z, kl_l, kl_d, catS_0, catS_c, cat_i, cat_l, cat_d, cat_r, cat_n, kC_r, kC_x, Option.bind_some, Option.toList_some, Option.toList_none, List.cons_append, List.nil_append, gB0, gB1, gB2, gB3, gB4, rvB, nI_iI, i0, i1, l0_, wr_s, aup_s, and_true, true_and, and_self, eq_self, if_true, if_false, Nat.zero_le, Nat.reduceAdd, Nat.reduceLeDiff, gN_I, gN_L, gN_P, bI_0, bI_ok, z0, z1, Bool.true_eq, Bool.false_eq_true, not_true_eq_false, not_false_eq_true]
theorem c_setSpeed {k v : Int} (hR : Rel W M) (b1 : -2147483648 ≤ k ∧ k < 2147483648) (b2 : -2147483648 ≤ v ∧ v < 2147483648) :
    Alk 0 [(eIA, 1), (eIS, 2)] x y g W M (fun H => aE (d + 12) 54 [.ref x, .int (iI k), .int (iI v)] H) (fun H => aE (e + 9) 221 [.ref y, .int (iI k), .int (iI v)] H) := by
  have hO := Rel_ok hR
  obtain ⟨u1, u2, u3, -⟩ := Rel_u hR
  have hM := hR.1.1.2.2.2.2.2.1
  have hQ := (mkOk_b hM).1
  have m11 := hM.2.1
  have hA0 := hR.2.1.2.2.1.1.1
  have hAP : ∀ i, i < W.1.2.2.1.1 → M.2.1 (325 + 1 + 2 * i) = iI (W.1.2.2.1.2.1 i) := hR.2.1.2.2.1.1.2.1
  by_cases hv : (0 ≤ k ∧ k ≤ 9599) ∧ (v = 0 ∨ (200 ≤ v ∧ v ≤ 3000))
  · obtain ⟨k, rfl⟩ : ∃ z : Nat, k = z := ⟨k.toNat, by omega⟩
    obtain ⟨v, rfl⟩ : ∃ z : Nat, v = z := ⟨v.toNat, by omega⟩
    obtain ⟨l1, l2, l3, l4⟩ := luK_k (V := W.1.2.2.1) (v := k) hM
    have row0 : (n2 (iI k) (iI v)) 0 = iI k := rfl
    have row1 : (n2 (iI k) (iI v)) 1 = iI v := rfl
    by_cases c0 : v = 0
    · subst c0
      by_cases c1 : 0 < k ∧ W.1.2.2.1.2.1 (lu W.1.2.2.1.2.1 k W.1.2.2.1.1) = k
      · have lk : luK W.1.2.2.1 k = lu W.1.2.2.1.2.1 k W.1.2.2.1.1 := if_pos c1.2
        have gS : sgG (spT W (mkD W.1.2.2.1 k)).1 := sgG_pD hR.1 c1
        have hA' : Rs (spT W (mkD W.1.2.2.1 k)).1 (delR 325 2 (luK W.1.2.2.1 k) W.1.2.2.1.1 M.2.1) := by
          rw [lk]
          exact Rs_del_p hR.2.1 hR.1.1 (lu_lt _ _ hM.1)
        refine alk_c ⟨_, rfl⟩ hR gS hA' (fun h n w => s_setSpeed_d hO (by omega) c1 gS.1) (fun h n w hy => ⟨n + 1, w + 2, ?_, by omega, ?_, by omega⟩)
        · refine r_setSpeed (d := e) (n := n) (w := w) (g := g) (h := h) (m := W.1.2.2.1.1 - 1) hy b1 b2 hv u1 u2 u3 ?_ hA'.2.2.1.1.1
          exact r_row2_del (d := e + 5) (n := n + 1) (w := w + 2) (g := g) (h := aup h n (aI .int 2 (n2 (iI k) (iI ((0 : Nat) : Int))))) (y := y) (M := bgM M) (q := n) hA0 hAP m11 hQ (by omega) hy aup_s rfl l1 l2 l3 (by omega) rfl ⟨c1.1, l4.mpr c1.2⟩
        · show 40 * (n + 1) + 13 * pot W.1 ≤ 40 * n + 46160 + 13 * (sqK W.1.1.2 W.1.1.1 - W.1.1.1)
          unfold pot
          omega
      · refine alk_n (k := 2) (by simp) (fun h n w => s_setSpeed_2 (v := 0) hO (by omega) (by omega) (by rw [if_pos rfl]; exact c1)) (fun h n w hy => ⟨n + 1, w + 2, rfM 2 (bgM M), ?_, hR, rfl, by omega, by omega⟩) rfl
        refine r_setSpeed_2 hy b1 b2 hv ?_
        exact r_row2_no (d := e + 5) (n := n + 1) (w := w + 2) (g := g) (h := aup h n (aI .int 2 (n2 (iI k) (iI ((0 : Nat) : Int))))) (y := y) (M := bgM M) (q := n) (z := 0) hA0 hAP m11 hQ (by omega) hy aup_s rfl l1 l2 l3 (by omega) rfl (by omega) (by
          rw [if_pos rfl]
          by_cases k0 : k = 0
          · exact Or.inl k0
          · exact Or.inr (fun zz => c1 ⟨by omega, l4.mp zz⟩))
    · have vv : 200 ≤ v ∧ v ≤ 3000 := by omega
      by_cases c1 : W.1.2.2.1.1 < 11 ∨ W.1.2.2.1.2.1 (lu W.1.2.2.1.2.1 k W.1.2.2.1.1) = k
      · have gS : sgG (spT W (mkA W.1.2.2.1 k v 0)).1 := sgG_pA hR.1 (by omega) vv c1
        by_cases c2 : W.1.2.2.1.2.1 (lu W.1.2.2.1.2.1 k W.1.2.2.1.1) = k
        · have lk : luK W.1.2.2.1 k = lu W.1.2.2.1.2.1 k W.1.2.2.1.1 := if_pos c2
          have ea : mkA W.1.2.2.1 k v 0 = (W.1.2.2.1.1, upN W.1.2.2.1.2.1 (lu W.1.2.2.1.2.1 k W.1.2.2.1.1) k, upN W.1.2.2.1.2.2.1 (lu W.1.2.2.1.2.1 k W.1.2.2.1.1) v, upN W.1.2.2.1.2.2.2 (lu W.1.2.2.1.2.1 k W.1.2.2.1.1) 0) := if_pos c2
          have hA' : Rs (spT W (mkA W.1.2.2.1 k v 0)).1 (setR 325 2 (luK W.1.2.2.1 k) (n2 (iI k) (iI v)) M.2.1) := by
            rw [lk, ea]
            exact Rs_set_p hR.2.1 hR.1.1 (lu_lt _ _ hM.1) rfl rfl
          refine alk_c ⟨_, rfl⟩ hR gS hA' (fun h n w => s_setSpeed hO (by omega) (by omega) c1 gS.1) (fun h n w hy => ⟨n + 1, w + 2, ?_, by omega, ?_, by omega⟩)
          · refine r_setSpeed (d := e) (n := n) (w := w) (g := g) (h := h) (m := (mkA W.1.2.2.1 k v 0).1) hy b1 b2 hv u1 u2 u3 ?_ hA'.2.2.1.1.1
            exact r_row2_set (d := e + 5) (n := n + 1) (w := w + 2) (g := g) (h := aup h n (aI .int 2 (n2 (iI k) (iI v)))) (y := y) (M := bgM M) (q := n) (z := v) hA0 hAP m11 hQ (by omega) hy aup_s rfl l1 l2 l3 (by omega) rfl (by omega) (l4.mpr c2)
          · show 40 * (n + 1) + 13 * pot W.1 ≤ 40 * n + 46160 + 13 * (sqK W.1.1.2 W.1.1.1 - W.1.1.1)
            unfold pot
            omega
        · have lk : luK W.1.2.2.1 k = lu W.1.2.2.1.2.1 k W.1.2.2.1.1 + 1 := if_neg c2
          have ea : mkA W.1.2.2.1 k v 0 = (W.1.2.2.1.1 + 1, insN W.1.2.2.1.2.1 (lu W.1.2.2.1.2.1 k W.1.2.2.1.1 + 1) W.1.2.2.1.1 k, insN W.1.2.2.1.2.2.1 (lu W.1.2.2.1.2.1 k W.1.2.2.1.1 + 1) W.1.2.2.1.1 v, insN W.1.2.2.1.2.2.2 (lu W.1.2.2.1.2.1 k W.1.2.2.1.1 + 1) W.1.2.2.1.1 0) := if_neg c2
          have hn := c1.resolve_right c2
          have g1 := lu_lt W.1.2.2.1.2.1 k hM.1
          have hA' : Rs (spT W (mkA W.1.2.2.1 k v 0)).1 (insR 325 2 (luK W.1.2.2.1 k) W.1.2.2.1.1 (n2 (iI k) (iI v)) M.2.1) := by
            rw [lk, ea]
            exact Rs_ins_p hR.2.1 hR.1.1 (by omega) hn rfl rfl
          refine alk_c ⟨_, rfl⟩ hR gS hA' (fun h n w => s_setSpeed hO (by omega) (by omega) c1 gS.1) (fun h n w hy => ⟨n + 1, w + 2, ?_, by omega, ?_, by omega⟩)
          · refine r_setSpeed (d := e) (n := n) (w := w) (g := g) (h := h) (m := (mkA W.1.2.2.1 k v 0).1) hy b1 b2 hv u1 u2 u3 ?_ hA'.2.2.1.1.1
            exact r_row2_ins (d := e + 5) (n := n + 1) (w := w + 2) (g := g) (h := aup h n (aI .int 2 (n2 (iI k) (iI v)))) (y := y) (M := bgM M) (q := n) (z := v) hA0 hAP m11 hQ (by omega) hy aup_s rfl l1 l2 l3 (by omega) rfl (by omega) ⟨hn, fun zz => c2 (l4.mp zz)⟩
          · show 40 * (n + 1) + 13 * pot W.1 ≤ 40 * n + 46160 + 13 * (sqK W.1.1.2 W.1.1.1 - W.1.1.1)
            unfold pot
            omega
      · refine alk_n (k := 2) (by simp) (fun h n w => s_setSpeed_2 (v := v) hO (by omega) (by omega) (by rw [if_neg c0]; exact c1)) (fun h n w hy => ⟨n + 1, w + 2, rfM 2 (bgM M), ?_, hR, rfl, by omega, by omega⟩) rfl
        refine r_setSpeed_2 hy b1 b2 hv ?_
        exact r_row2_no (d := e + 5) (n := n + 1) (w := w + 2) (g := g) (h := aup h n (aI .int 2 (n2 (iI k) (iI v)))) (y := y) (M := bgM M) (q := n) (z := v) hA0 hAP m11 hQ (by omega) hy aup_s rfl l1 l2 l3 (by omega) rfl (by omega) (by
          rw [if_neg c0]
          exact ⟨by omega, fun zz => c1 (Or.inr (l4.mp zz))⟩)
  · exact alk_e (k := 1) (by simp) (fun h n w => s_setSpeed_1 b1 b2 hv) (fun h n w hy => r_setSpeed_1 hy b1 b2 hv) (Rel_bg hR) rfl
theorem c_setMeter {k v z : Int} (hR : Rel W M) (b1 : -2147483648 ≤ k ∧ k < 2147483648) (b2 : -2147483648 ≤ v ∧ v < 2147483648) (b3 : -2147483648 ≤ z ∧ z < 2147483648) :
    Alk 0 [(eIA, 1), (eIS, 2)] x y g W M (fun H => aE (d + 12) 55 [.ref x, .int (iI k), .int (iI v), .int (iI z)] H) (fun H => aE (e + 9) 222 [.ref y, .int (iI k), .int (iI v), .int (iI z)] H) := by
  have hO := Rel_ok hR
  obtain ⟨u1, u2, u3, -⟩ := Rel_u hR
  have hM := hR.1.1.2.2.2.2.2.2.1
  have hQ := (mkOk_b hM).1
  have m11 := hM.2.1
  have hA0 := hR.2.1.2.2.2.1.1.1
  have hAP : ∀ i, i < W.1.2.2.2.1.1 → M.2.1 (348 + 1 + 3 * i) = iI (W.1.2.2.2.1.2.1 i) := hR.2.1.2.2.2.1.1.2.1
  by_cases hv : (0 ≤ k ∧ k ≤ 99) ∧ (0 ≤ v ∧ v ≤ 16) ∧ (v = 0 ∨ z = 2 ∨ z = 4 ∨ z = 8 ∨ z = 16)
  · obtain ⟨k, rfl⟩ : ∃ z : Nat, k = z := ⟨k.toNat, by omega⟩
    obtain ⟨v, rfl⟩ : ∃ z : Nat, v = z := ⟨v.toNat, by omega⟩
    obtain ⟨l1, l2, l3, l4⟩ := luK_k (V := W.1.2.2.2.1) (v := k) hM
    have hvR : (0 ≤ (k : Int) ∧ (k : Int) ≤ 99) ∧ (0 ≤ (v : Int) ∧ (v : Int) ≤ 16) ∧ ((v : Int) ≤ 0 ∨ z = 2 ∨ z = 4 ∨ z = 8 ∨ z = 16) := by omega
    have row0 : (n3 (iI k) (iI v) (iI z)) 0 = iI k := rfl
    have row1 : (n3 (iI k) (iI v) (iI z)) 1 = iI v := rfl
    by_cases c0 : v = 0
    · subst c0
      by_cases c1 : 0 < k ∧ W.1.2.2.2.1.2.1 (lu W.1.2.2.2.1.2.1 k W.1.2.2.2.1.1) = k
      · have lk : luK W.1.2.2.2.1 k = lu W.1.2.2.2.1.2.1 k W.1.2.2.2.1.1 := if_pos c1.2
        have gS : sgG (mtT W (mkD W.1.2.2.2.1 k)).1 := sgG_mD hR.1 c1
        have hA' : Rs (mtT W (mkD W.1.2.2.2.1 k)).1 (delR 348 3 (luK W.1.2.2.2.1 k) W.1.2.2.2.1.1 M.2.1) := by
          rw [lk]
          exact Rs_del_m hR.2.1 hR.1.1 (lu_lt _ _ hM.1)
        refine alk_c ⟨_, rfl⟩ hR gS hA' (fun h n w => s_setMeter_d hO (by omega) b3 c1 gS.1) (fun h n w hy => ⟨n + 1, w + 3, ?_, by omega, ?_, by omega⟩)
        · refine r_setMeter (d := e) (n := n) (w := w) (g := g) (h := h) (m := W.1.2.2.2.1.1 - 1) hy b1 b2 b3 hvR u1 u2 u3 ?_ hA'.2.2.2.1.1.1
          exact r_row3_del (d := e + 5) (n := n + 1) (w := w + 3) (g := g) (h := aup h n (aI .int 3 (n3 (iI k) (iI ((0 : Nat) : Int)) (iI z)))) (y := y) (M := bgM M) (q := n) hA0 hAP m11 hQ (by omega) hy aup_s rfl l1 l2 l3 (by omega) rfl ⟨c1.1, l4.mpr c1.2⟩
        · show 40 * (n + 1) + 13 * pot W.1 ≤ 40 * n + 46160 + 13 * (sqK W.1.1.2 W.1.1.1 - W.1.1.1)
          unfold pot
          omega
      · refine alk_n (k := 2) (by simp) (fun h n w => s_setMeter_2z (z := z) hO (by omega) b3 c1) (fun h n w hy => ⟨n + 1, w + 3, rfM 2 (bgM M), ?_, hR, rfl, by omega, by omega⟩) rfl
        refine r_setMeter_2 hy b1 b2 b3 hvR ?_
        exact r_row3_no (d := e + 5) (n := n + 1) (w := w + 3) (g := g) (h := aup h n (aI .int 3 (n3 (iI k) (iI ((0 : Nat) : Int)) (iI z)))) (y := y) (M := bgM M) (q := n) (z := 0) hA0 hAP m11 hQ (by omega) hy aup_s rfl l1 l2 l3 (by omega) rfl (by omega) (by
          rw [if_pos rfl]
          by_cases k0 : k = 0
          · exact Or.inl k0
          · exact Or.inr (fun zz => c1 ⟨by omega, l4.mp zz⟩))
    · have vv : 1 ≤ v ∧ v ≤ 16 := by omega
      obtain ⟨z, rfl⟩ : ∃ q : Nat, z = q := ⟨z.toNat, by omega⟩
      by_cases c1 : W.1.2.2.2.1.1 < 11 ∨ W.1.2.2.2.1.2.1 (lu W.1.2.2.2.1.2.1 k W.1.2.2.2.1.1) = k
      · have gS : sgG (mtT W (mkA W.1.2.2.2.1 k v z)).1 := sgG_mA hR.1 (by omega) (by omega) (by omega) c1
        by_cases c2 : W.1.2.2.2.1.2.1 (lu W.1.2.2.2.1.2.1 k W.1.2.2.2.1.1) = k
        · have lk : luK W.1.2.2.2.1 k = lu W.1.2.2.2.1.2.1 k W.1.2.2.2.1.1 := if_pos c2
          have ea : mkA W.1.2.2.2.1 k v z = (W.1.2.2.2.1.1, upN W.1.2.2.2.1.2.1 (lu W.1.2.2.2.1.2.1 k W.1.2.2.2.1.1) k, upN W.1.2.2.2.1.2.2.1 (lu W.1.2.2.2.1.2.1 k W.1.2.2.2.1.1) v, upN W.1.2.2.2.1.2.2.2 (lu W.1.2.2.2.1.2.1 k W.1.2.2.2.1.1) z) := if_pos c2
          have hA' : Rs (mtT W (mkA W.1.2.2.2.1 k v z)).1 (setR 348 3 (luK W.1.2.2.2.1 k) (n3 (iI k) (iI v) (iI z)) M.2.1) := by
            rw [lk, ea]
            exact Rs_set_m hR.2.1 hR.1.1 (lu_lt _ _ hM.1) rfl rfl rfl
          refine alk_c ⟨_, rfl⟩ hR gS hA' (fun h n w => s_setMeter hO (by omega) (by omega) (by omega) c1 gS.1) (fun h n w hy => ⟨n + 1, w + 3, ?_, by omega, ?_, by omega⟩)
          · refine r_setMeter (d := e) (n := n) (w := w) (g := g) (h := h) (m := (mkA W.1.2.2.2.1 k v z).1) hy b1 b2 b3 hvR u1 u2 u3 ?_ hA'.2.2.2.1.1.1
            exact r_row3_set (d := e + 5) (n := n + 1) (w := w + 3) (g := g) (h := aup h n (aI .int 3 (n3 (iI k) (iI v) (iI z)))) (y := y) (M := bgM M) (q := n) (z := v) hA0 hAP m11 hQ (by omega) hy aup_s rfl l1 l2 l3 (by omega) rfl (by omega) (l4.mpr c2)
          · show 40 * (n + 1) + 13 * pot W.1 ≤ 40 * n + 46160 + 13 * (sqK W.1.1.2 W.1.1.1 - W.1.1.1)
            unfold pot
            omega
        · have lk : luK W.1.2.2.2.1 k = lu W.1.2.2.2.1.2.1 k W.1.2.2.2.1.1 + 1 := if_neg c2
          have ea : mkA W.1.2.2.2.1 k v z = (W.1.2.2.2.1.1 + 1, insN W.1.2.2.2.1.2.1 (lu W.1.2.2.2.1.2.1 k W.1.2.2.2.1.1 + 1) W.1.2.2.2.1.1 k, insN W.1.2.2.2.1.2.2.1 (lu W.1.2.2.2.1.2.1 k W.1.2.2.2.1.1 + 1) W.1.2.2.2.1.1 v, insN W.1.2.2.2.1.2.2.2 (lu W.1.2.2.2.1.2.1 k W.1.2.2.2.1.1 + 1) W.1.2.2.2.1.1 z) := if_neg c2
          have hn := c1.resolve_right c2
          have g1 := lu_lt W.1.2.2.2.1.2.1 k hM.1
          have hA' : Rs (mtT W (mkA W.1.2.2.2.1 k v z)).1 (insR 348 3 (luK W.1.2.2.2.1 k) W.1.2.2.2.1.1 (n3 (iI k) (iI v) (iI z)) M.2.1) := by
            rw [lk, ea]
            exact Rs_ins_m hR.2.1 hR.1.1 (by omega) hn rfl rfl rfl
          refine alk_c ⟨_, rfl⟩ hR gS hA' (fun h n w => s_setMeter hO (by omega) (by omega) (by omega) c1 gS.1) (fun h n w hy => ⟨n + 1, w + 3, ?_, by omega, ?_, by omega⟩)
          · refine r_setMeter (d := e) (n := n) (w := w) (g := g) (h := h) (m := (mkA W.1.2.2.2.1 k v z).1) hy b1 b2 b3 hvR u1 u2 u3 ?_ hA'.2.2.2.1.1.1
            exact r_row3_ins (d := e + 5) (n := n + 1) (w := w + 3) (g := g) (h := aup h n (aI .int 3 (n3 (iI k) (iI v) (iI z)))) (y := y) (M := bgM M) (q := n) (z := v) hA0 hAP m11 hQ (by omega) hy aup_s rfl l1 l2 l3 (by omega) rfl (by omega) ⟨hn, fun zz => c2 (l4.mp zz)⟩
          · show 40 * (n + 1) + 13 * pot W.1 ≤ 40 * n + 46160 + 13 * (sqK W.1.1.2 W.1.1.1 - W.1.1.1)
            unfold pot
            omega
      · refine alk_n (k := 2) (by simp) (fun h n w => s_setMeter_2 (y := v) (z := z) hO (by omega) (by omega) (by omega) (by omega) (by rw [if_neg c0]; exact c1)) (fun h n w hy => ⟨n + 1, w + 3, rfM 2 (bgM M), ?_, hR, rfl, by omega, by omega⟩) rfl
        refine r_setMeter_2 hy b1 b2 b3 hvR ?_
        exact r_row3_no (d := e + 5) (n := n + 1) (w := w + 3) (g := g) (h := aup h n (aI .int 3 (n3 (iI k) (iI v) (iI z)))) (y := y) (M := bgM M) (q := n) (z := v) hA0 hAP m11 hQ (by omega) hy aup_s rfl l1 l2 l3 (by omega) rfl (by omega) (by
          rw [if_neg c0]
          exact ⟨by omega, fun zz => c1 (Or.inr (l4.mp zz))⟩)
  · exact alk_e (k := 1) (by simp) (fun h n w => s_setMeter_1 b1 b2 b3 hv) (fun h n w hy => r_setMeter_1 hy b1 b2 b3 (by omega)) (Rel_bg hR) rfl
end
