/-! ===== the reference tells its events ===== -/
def sgN (P : PV) (t : Nat) : Nat → Nat
  | 0 => 0
  | k + 1 => sgN P t k + if (P.2 k).1 ≤ t ∧ t < (P.2 k).1 + (P.2 k).2.1 then 1 else 0
theorem sgN_le (P : PV) (t : Nat) : ∀ k, sgN P t k ≤ k
  | 0 => Nat.le_refl _
  | k + 1 => by
    have := sgN_le P t k
    unfold sgN
    split <;> omega
section
variable {d n w : Nat} {g : Nat × Nat} {h : aHf} {r : Nat × Nat × Nat × Nat} {y : Nat} {M : Md} {A : Nat → Nat} {m : Nat} {F : Nat → Nat} {X : Nat → Int32} {T : Nat → Nat} {S D : Nat → Int} {lp : LPv}
theorem r_eventsNow0 (hd : 80 ≤ d) (hy : y + 531 ≤ n) (hR : rdH M m F X T S D lp) (hA : M.2.2.2.2.2.2.2.2 = fun i => lI (A i)) (hB : ∀ i, bd (A i)) : ∃ Z n' w' C, rwA (pA m F T S D lp) Z ∧ (n ≤ n' ∧ n' ≤ n + 2) ∧ w' ≤ w + 127 + 2 * (pA m F T S D lp).1 ∧ prm 0 (2 * (pA m F T S D lp).1) (rwE (pA m F T S D lp) (pA m F T S D lp).1 A) C ∧ sor C 0 (2 * (pA m F T S D lp).1) ∧ (∀ i, bd (C i)) ∧
    aE (d + 4) 240 [.ref y] (mdW h y (rfM 0 M), n, w, g) = some (.inl (some (.int (iI (2 * (pA m F T S D lp).1 : Nat)))), (mdW h y (roM (plM (rfM 0 M) (pA m F T S D lp).1 Z) C), n', w', g)) := by
  obtain ⟨Z, n', w', C, c1, c2, c3, c4, c5, p1⟩ := r_eventsNow (d := d) (n := n) (w := w) (g := g) (h := h) (y := y) (M := rfM 0 M) (A := A) (X := X) hd hy hR hA hB
  exact ⟨Z, n', w', C, c1, c2, c3, c4, c5, prm_bd c4 (rwE_bd (pA_n hR).2 hB _ (Nat.le_refl _)), p1⟩
theorem r_events (hd : 80 ≤ d) (hy : y + 531 ≤ n) (hR : rdH M m F X T S D lp) (hA : M.2.2.2.2.2.2.2.2 = fun i => lI (A i)) (hB : ∀ i, bd (A i)) : ∃ Z n' w' C, rwA (pA m F T S D lp) Z ∧ (n ≤ n' ∧ n' ≤ n + 2) ∧ w' ≤ w + 127 + 2 * (pA m F T S D lp).1 ∧ prm 0 (2 * (pA m F T S D lp).1) (rwE (pA m F T S D lp) (pA m F T S D lp).1 A) C ∧ sor C 0 (2 * (pA m F T S D lp).1) ∧ (∀ i, bd (C i)) ∧
    aE (d + 5) 245 [.ref y] (mdW h y M, n, w, g) = some (.inl (some (.int (iI (2 * (pA m F T S D lp).1 : Nat)))), (mdW h y (roM (plM (rfM 0 M) (pA m F T S D lp).1 Z) C), n', w', g)) := by
  obtain ⟨Z, n', w', C, c1, c2, c3, c4, c5, c6, p1⟩ := r_eventsNow0 (d := d) (n := n) (w := w) (g := g) (h := h) hd hy hR hA hB
  refine ⟨Z, n', w', C, c1, c2, c3, c4, c5, c6, ?_⟩
  have m0 := md_0 (h := h) (y := y) (M := rfM 0 M)
  have z0 : mdW h y ((iI 0, M.1.2), M.2) = mdW h y (rfM 0 M) := rfl
  simp (disch := omega) only [e245, r245_0, r245_1, r245_2, r245_5, r245_6, r245_9, md_0, sB0i, md_th, z0, p1, kl_n, kl_i, kl_r, kl_z, kl_l, kl_d, catS_0, catS_c, cat_i, cat_l, cat_d, cat_r, cat_n, kC_r, kC_x, Option.bind_some, Option.toList_some, Option.toList_none, List.cons_append, List.nil_append, gB0, gB1, gB2, gB3, gB4, rvB, nI_iI, i0, i1, l0_, wr_s, aup_s, and_true, true_and, and_self, eq_self, if_true, if_false, Nat.zero_le, Nat.reduceAdd, Nat.reduceLeDiff, gN_I, gN_L, gN_P, bI_0, bI_ok, z0, z1, Bool.true_eq, Bool.false_eq_true, not_true_eq_false, not_false_eq_true]
theorem r_event {j k : Nat} (hd : 80 ≤ d) (hy : y + 531 ≤ n) (hR : rdH M m F X T S D lp) (hA : M.2.2.2.2.2.2.2.2 = fun i => lI (A i)) (hB : ∀ i, bd (A i)) (hj : j < 2 * (pA m F T S D lp).1) (hk : k ≤ 3) : ∃ Z n' w' C, rwA (pA m F T S D lp) Z ∧ (n ≤ n' ∧ n' ≤ n + 2) ∧ w' ≤ w + 127 + 2 * (pA m F T S D lp).1 ∧ prm 0 (2 * (pA m F T S D lp).1) (rwE (pA m F T S D lp) (pA m F T S D lp).1 A) C ∧ sor C 0 (2 * (pA m F T S D lp).1) ∧ (∀ i, bd (C i)) ∧
    aE (d + 5) 246 [.ref y, .int (iI j), .int (iI k)] (mdW h y M, n, w, g) = some (.inl (some (.int (iI (rFact (C j) k)))), (mdW h y (roM (plM (rfM 0 M) (pA m F T S D lp).1 Z) C), n', w', g)) := by
  obtain ⟨Z, n', w', C, c1, c2, c3, c4, c5, c6, p1⟩ := r_eventsNow0 (d := d) (n := n) (w := w) (g := g) (h := h) hd hy hR hA hB
  refine ⟨Z, n', w', C, c1, c2, c3, c4, c5, c6, ?_⟩
  obtain ⟨b1, b2⟩ := pA_n hR
  generalize (pA m F T S D lp) = P at *
  have m0 := md_0 (h := h) (y := y) (M := rfM 0 M)
  have m1 := md_0 (h := h) (y := y) (M := roM (plM (rfM 0 M) P.1 Z) C)
  have m2 : mdW h y (roM (plM (rfM 0 M) P.1 Z) C) (y + 530) = some (aL 960 (fun i => lI (C i))) := md_530
  have z0 : mdW h y ((iI 0, M.1.2), M.2) = mdW h y (rfM 0 M) := rfl
  have q1 : (0 : Int) ≤ (j : Int) ∧ (j : Int) ≤ ((2 * P.1 : Nat) : Int) - 1 := by omega
  have q2 : (0 : Int) ≤ (k : Int) ∧ (k : Int) ≤ 3 := by omega
  have gl : gL (some (aL 960 (fun i => lI (C i)))) (iI (j : Int)) = some (lI (C j)) := by
    have z := lw_g (h := h) (p := 0) (N := 960) (j := j) (C := C) (by omega) (by omega)
    rw [lw_at] at z
    exact z
  have tl := r_told (d := d + 3) (H := (mdW h y (roM (plM (rfM 0 M) P.1 Z) C), n', w', g)) (e := C j) (w := k) (c6 j) hk
  simp (disch := omega) only [e246, r246_0, r246_1, r246_2, r246_5, r246_6, r246_7, r246_8, r246_11, r246_12, r246_13, r246_16, r246_19, r246_20, r246_21, r246_24, md_0, sB0i, md_th, z0, p1, iI_sub, s_mis, q1, kl_n, kl_i, kl_r, kl_z, kl_l, kl_d, catS_0, catS_c, cat_i, cat_l, cat_d, cat_r, cat_n, kC_r, kC_x, Option.bind_some, Option.toList_some, Option.toList_none, List.cons_append, List.nil_append, gB0, gB1, gB2, gB3, gB4, rvB, nI_iI, i0, i1, l0_, wr_s, aup_s, and_true, true_and, and_self, eq_self, if_true, if_false, Nat.zero_le, Nat.reduceAdd, Nat.reduceLeDiff, gN_I, gN_L, gN_P, bI_0, bI_ok, z0, z1, Bool.true_eq, Bool.false_eq_true, not_true_eq_false, not_false_eq_true]
  simp (disch := omega) only [r246_25, r246_26, r246_27, r246_28, r246_31, r246_34, r246_35, r246_38, r246_39, r246_40, r246_41, r246_44, r246_52, m1, s_mis, q2, mg13, m2, gl, tl, kl_n, kl_i, kl_r, kl_z, kl_l, kl_d, catS_0, catS_c, cat_i, cat_l, cat_d, cat_r, cat_n, kC_r, kC_x, Option.bind_some, Option.toList_some, Option.toList_none, List.cons_append, List.nil_append, gB0, gB1, gB2, gB3, gB4, rvB, nI_iI, i0, i1, l0_, wr_s, aup_s, and_true, true_and, and_self, eq_self, if_true, if_false, Nat.zero_le, Nat.reduceAdd, Nat.reduceLeDiff, gN_I, gN_L, gN_P, bI_0, bI_ok, z0, z1, Bool.true_eq, Bool.false_eq_true, not_true_eq_false, not_false_eq_true]
theorem r_event_1 {j k : Int} (hd : 80 ≤ d) (hy : y + 531 ≤ n) (hR : rdH M m F X T S D lp) (hA : M.2.2.2.2.2.2.2.2 = fun i => lI (A i)) (hB : ∀ i, bd (A i)) (b1 : -2147483648 ≤ j ∧ j < 2147483648) (hj : ¬ (0 ≤ j ∧ j < (2 * (pA m F T S D lp).1 : Nat))) : ∃ Z n' w' C, rwA (pA m F T S D lp) Z ∧ (n ≤ n' ∧ n' ≤ n + 2) ∧ w' ≤ w + 127 + 2 * (pA m F T S D lp).1 ∧ prm 0 (2 * (pA m F T S D lp).1) (rwE (pA m F T S D lp) (pA m F T S D lp).1 A) C ∧ sor C 0 (2 * (pA m F T S D lp).1) ∧ (∀ i, bd (C i)) ∧
    aE (d + 5) 246 [.ref y, .int (iI j), .int (iI k)] (mdW h y M, n, w, g) = some (.inl (some (.int (iI 0))), (mdW h y (rfM 1 (roM (plM (rfM 0 M) (pA m F T S D lp).1 Z) C)), n', w', g)) := by
  obtain ⟨Z, n', w', C, c1, c2, c3, c4, c5, c6, p1⟩ := r_eventsNow0 (d := d) (n := n) (w := w) (g := g) (h := h) hd hy hR hA hB
  refine ⟨Z, n', w', C, c1, c2, c3, c4, c5, c6, ?_⟩
  obtain ⟨b3, b2⟩ := pA_n hR
  generalize (pA m F T S D lp) = P at *
  have m1 := md_0 (h := h) (y := y) (M := roM (plM (rfM 0 M) P.1 Z) C)
  have m0 := md_0 (h := h) (y := y) (M := rfM 0 M)
  have z0 : mdW h y ((iI 0, M.1.2), M.2) = mdW h y (rfM 0 M) := rfl
  have rf := r_refuse (d := d + 3) (h := h) (r := (n', w', g)) (y := y) (M := roM (plM (rfM 0 M) P.1 Z) C) (k := 1)
  have q1 : ¬ ((0 : Int) ≤ j ∧ j ≤ ((2 * P.1 : Nat) : Int) - 1) := by omega
  have q1F := eq_false q1
  simp (disch := omega) only [e246, r246_0, r246_1, r246_2, r246_5, r246_6, r246_7, r246_8, r246_11, r246_12, r246_13, r246_16, r246_19, r246_20, r246_21, r246_24, md_0, sB0i, md_th, z0, p1, iI_sub, s_mis, q1F, m1, rf, kl_n, kl_i, kl_r, kl_z, kl_l, kl_d, catS_0, catS_c, cat_i, cat_l, cat_d, cat_r, cat_n, kC_r, kC_x, Option.bind_some, Option.toList_some, Option.toList_none, List.cons_append, List.nil_append, gB0, gB1, gB2, gB3, gB4, rvB, nI_iI, i0, i1, l0_, wr_s, aup_s, and_true, true_and, and_self, eq_self, if_true, if_false, Nat.zero_le, Nat.reduceAdd, Nat.reduceLeDiff, gN_I, gN_L, gN_P, bI_0, bI_ok, z0, z1, Bool.true_eq, Bool.false_eq_true, not_true_eq_false, not_false_eq_true]
  rfl
theorem r_event_2 {j : Nat} {k : Int} (hd : 80 ≤ d) (hy : y + 531 ≤ n) (hR : rdH M m F X T S D lp) (hA : M.2.2.2.2.2.2.2.2 = fun i => lI (A i)) (hB : ∀ i, bd (A i)) (hj : j < 2 * (pA m F T S D lp).1) (b1 : -2147483648 ≤ k ∧ k < 2147483648) (hk : ¬ (0 ≤ k ∧ k ≤ 3)) : ∃ Z n' w' C, rwA (pA m F T S D lp) Z ∧ (n ≤ n' ∧ n' ≤ n + 2) ∧ w' ≤ w + 127 + 2 * (pA m F T S D lp).1 ∧ prm 0 (2 * (pA m F T S D lp).1) (rwE (pA m F T S D lp) (pA m F T S D lp).1 A) C ∧ sor C 0 (2 * (pA m F T S D lp).1) ∧ (∀ i, bd (C i)) ∧
    aE (d + 5) 246 [.ref y, .int (iI j), .int (iI k)] (mdW h y M, n, w, g) = some (.inl (some (.int (iI 0))), (mdW h y (rfM 2 (roM (plM (rfM 0 M) (pA m F T S D lp).1 Z) C)), n', w', g)) := by
  obtain ⟨Z, n', w', C, c1, c2, c3, c4, c5, c6, p1⟩ := r_eventsNow0 (d := d) (n := n) (w := w) (g := g) (h := h) hd hy hR hA hB
  refine ⟨Z, n', w', C, c1, c2, c3, c4, c5, c6, ?_⟩
  obtain ⟨b3, b2⟩ := pA_n hR
  generalize (pA m F T S D lp) = P at *
  have m1 := md_0 (h := h) (y := y) (M := roM (plM (rfM 0 M) P.1 Z) C)
  have m0 := md_0 (h := h) (y := y) (M := rfM 0 M)
  have z0 : mdW h y ((iI 0, M.1.2), M.2) = mdW h y (rfM 0 M) := rfl
  have rf := r_refuse (d := d + 3) (h := h) (r := (n', w', g)) (y := y) (M := roM (plM (rfM 0 M) P.1 Z) C) (k := 2)
  have q1 : (0 : Int) ≤ (j : Int) ∧ (j : Int) ≤ ((2 * P.1 : Nat) : Int) - 1 := by omega
  have q2F := eq_false hk
  simp (disch := omega) only [e246, r246_0, r246_1, r246_2, r246_5, r246_6, r246_7, r246_8, r246_11, r246_12, r246_13, r246_16, r246_19, r246_20, r246_21, r246_24, md_0, sB0i, md_th, z0, p1, iI_sub, s_mis, q1, kl_n, kl_i, kl_r, kl_z, kl_l, kl_d, catS_0, catS_c, cat_i, cat_l, cat_d, cat_r, cat_n, kC_r, kC_x, Option.bind_some, Option.toList_some, Option.toList_none, List.cons_append, List.nil_append, gB0, gB1, gB2, gB3, gB4, rvB, nI_iI, i0, i1, l0_, wr_s, aup_s, and_true, true_and, and_self, eq_self, if_true, if_false, Nat.zero_le, Nat.reduceAdd, Nat.reduceLeDiff, gN_I, gN_L, gN_P, bI_0, bI_ok, z0, z1, Bool.true_eq, Bool.false_eq_true, not_true_eq_false, not_false_eq_true]
  simp (disch := omega) only [r246_25, r246_26, r246_27, r246_28, r246_31, r246_47, r246_48, r246_49, r246_52, m1, s_mis, q2F, rf, kl_n, kl_i, kl_r, kl_z, kl_l, kl_d, catS_0, catS_c, cat_i, cat_l, cat_d, cat_r, cat_n, kC_r, kC_x, Option.bind_some, Option.toList_some, Option.toList_none, List.cons_append, List.nil_append, gB0, gB1, gB2, gB3, gB4, rvB, nI_iI, i0, i1, l0_, wr_s, aup_s, and_true, true_and, and_self, eq_self, if_true, if_false, Nat.zero_le, Nat.reduceAdd, Nat.reduceLeDiff, gN_I, gN_L, gN_P, bI_0, bI_ok, z0, z1, Bool.true_eq, Bool.false_eq_true, not_true_eq_false, not_false_eq_true]
  rfl
theorem sg_30 {P : PV} {Z : Nat → Nat → Int32} {t : Nat} (ht : t ≤ 99999) (hP : pvB P) (hn : P.1 ≤ 480) (hZ : rwA P Z) : ∀ s k : Nat, k + s = P.1 → L (d + 1) 247 30 [some (.ref y), some (.int (iI t)), some (.int (iI (sgN P t k))), some (.int (iI k))] [] (mdW h y (plM M P.1 Z), r) = some (.inl (some (.int (iI (sgN P t P.1)))), (mdW h y (plM M P.1 Z), r)) := by
  have m0 := md_0 (h := h) (y := y) (M := plM M P.1 Z)
  have p0 : (plM M P.1 Z).1.2.2.2.2.2.1 = iI P.1 := rfl
  intro s
  induction s with
  | zero =>
    intro k hk
    obtain rfl : k = P.1 := by omega
    rw [r247_30]
    simp (disch := omega) only [r247_31, r247_32, r247_35, r247_86, r247_87, m0, mg12, p0, iI_le, Int.le_refl, kl_n, kl_i, kl_r, kl_z, kl_l, kl_d, catS_0, catS_c, cat_i, cat_l, cat_d, cat_r, cat_n, kC_r, kC_x, Option.bind_some, Option.toList_some, Option.toList_none, List.cons_append, List.nil_append, gB0, gB1, gB2, gB3, gB4, rvB, nI_iI, i0, i1, l0_, wr_s, aup_s, and_true, true_and, and_self, eq_self, if_true, if_false, Nat.zero_le, Nat.reduceAdd, Nat.reduceLeDiff, gN_I, gN_L, gN_P, bI_0, bI_ok, z0, z1, Bool.true_eq, Bool.false_eq_true, not_true_eq_false, not_false_eq_true]
  | succ s ih =>
    intro k hk
    have hkP : k < P.1 := by omega
    have hk4 : k < 480 := by omega
    obtain ⟨z0, z1, z2, z3, z4⟩ := hZ k hkP
    obtain ⟨b1, b2, b3⟩ := hP k hkP
    have m49 := md_49 (h := h) (y := y) (M := plM M P.1 Z)
    have mp : mdW h y (plM M P.1 Z) (y + 50 + k) = some (aI .int 5 (Z k)) := md_p (h := h) (y := y) (M := plM M P.1 Z) hk4
    have gp : gP (some (aP (.array .int) 480 (fun i => if i < 480 then some (y + 50 + i) else none))) (iI (k : Int)) = some (.ref (y + 50 + k)) := by
      rw [gP_P (by omega) (by omega) (by omega), Int.toNat_natCast, if_pos hk4]
      rfl
    have gi : ∀ j : Nat, j < 5 → gI (some (aI .int 5 (Z k))) (iI (j : Int)) = some (Z k j) := fun j hj => gI_N (by omega) (by omega)
    have g0 := gi 0 (by omega)
    have g1 := gi 1 (by omega)
    rw [show ((0 : Nat) : Int) = 0 from rfl, z0] at g0
    rw [show ((1 : Nat) : Int) = 1 from rfl, z1] at g1
    have c1 : ¬ (P.1 : Int) ≤ k := by omega
    have e3 : (k : Int) + 1 = ((k + 1 : Nat) : Int) := by omega
    have h9 := ih (k + 1) (by omega)
    have sl := sgN_le P t k
    rw [r247_30]
    by_cases c : (P.2 k).1 ≤ t ∧ t < (P.2 k).1 + (P.2 k).2.1
    · have c2 : (((P.2 k).1 : Nat) : Int) ≤ (t : Int) ∧ (t : Int) ≤ (((P.2 k).1 : Nat) : Int) + (((P.2 k).2.1 : Nat) : Int) - 1 := by omega
      have e4 : sgN P t (k + 1) = sgN P t k + 1 := congrArg (sgN P t k + ·) (if_pos c)
      have e5 : ((sgN P t k : Nat) : Int) + 1 = ((sgN P t (k + 1) : Nat) : Int) := by omega
      simp (disch := omega) only [r247_31, r247_32, r247_35, r247_38, r247_39, r247_40, r247_41, r247_44, r247_45, r247_46, r247_47, r247_48, r247_49, r247_52, r247_53, r247_54, r247_55, r247_56, r247_57, r247_60, r247_61, r247_62, r247_63, r247_64, r247_65, r247_66, r247_67, r247_70, r247_73, r247_74, r247_77, r247_78, r247_79, r247_80, r247_83, m0, mg11, mg12, p0, iI_le, c1, m49, gp, mp, g0, g1, iI_add, iI_sub, s_mis, c2, e5, e3, h9, kl_n, kl_i, kl_r, kl_z, kl_l, kl_d, catS_0, catS_c, cat_i, cat_l, cat_d, cat_r, cat_n, kC_r, kC_x, Option.bind_some, Option.toList_some, Option.toList_none, List.cons_append, List.nil_append, gB0, gB1, gB2, gB3, gB4, rvB, nI_iI, i0, i1, l0_, wr_s, aup_s, and_true, true_and, and_self, eq_self, if_true, if_false, Nat.zero_le, Nat.reduceAdd, Nat.reduceLeDiff, gN_I, gN_L, gN_P, bI_0, bI_ok, z0, z1, Bool.true_eq, Bool.false_eq_true, not_true_eq_false, not_false_eq_true]
    · have c2 := eq_false (show ¬ ((((P.2 k).1 : Nat) : Int) ≤ (t : Int) ∧ (t : Int) ≤ (((P.2 k).1 : Nat) : Int) + (((P.2 k).2.1 : Nat) : Int) - 1) by omega)
      have e4 : sgN P t (k + 1) = sgN P t k + 0 := congrArg (sgN P t k + ·) (if_neg c)
      have e5 : ((sgN P t k : Nat) : Int) + 0 = ((sgN P t (k + 1) : Nat) : Int) := by omega
      simp (disch := omega) only [r247_31, r247_32, r247_35, r247_38, r247_39, r247_40, r247_41, r247_44, r247_45, r247_46, r247_47, r247_48, r247_49, r247_52, r247_53, r247_54, r247_55, r247_56, r247_57, r247_60, r247_61, r247_62, r247_63, r247_64, r247_65, r247_66, r247_67, r247_70, r247_73, r247_74, r247_77, r247_78, r247_79, r247_80, r247_83, m0, mg11, mg12, p0, iI_le, c1, m49, gp, mp, g0, g1, iI_add, iI_sub, s_mis, c2, e5, e3, h9, kl_n, kl_i, kl_r, kl_z, kl_l, kl_d, catS_0, catS_c, cat_i, cat_l, cat_d, cat_r, cat_n, kC_r, kC_x, Option.bind_some, Option.toList_some, Option.toList_none, List.cons_append, List.nil_append, gB0, gB1, gB2, gB3, gB4, rvB, nI_iI, i0, i1, l0_, wr_s, aup_s, and_true, true_and, and_self, eq_self, if_true, if_false, Nat.zero_le, Nat.reduceAdd, Nat.reduceLeDiff, gN_I, gN_L, gN_P, bI_0, bI_ok, z0, z1, Bool.true_eq, Bool.false_eq_true, not_true_eq_false, not_false_eq_true]
theorem r_sounding {t : Nat} (ht : t ≤ 99999) (hR : rdH M m F X T S D lp) : ∃ Z, rwA (pA m F T S D lp) Z ∧ aE (d + 5) 247 [.ref y, .int (iI t)] (mdW h y M, r) = some (.inl (some (.int (iI (sgN (pA m F T S D lp) t (pA m F T S D lp).1)))), (mdW h y (plM (rfM 0 M) (pA m F T S D lp).1 Z), r)) := by
  obtain ⟨Z, hZ, p1⟩ := r_renderA (d := d + 1) (h := h) (r := r) (y := y) (M := rfM 0 M) (X := X) hR
  obtain ⟨b1, b2⟩ := pA_n hR
  generalize (pA m F T S D lp) = P at *
  have q1 : (0 : Int) ≤ (t : Int) ∧ (t : Int) ≤ 99999 := by omega
  have m0 := md_0 (h := h) (y := y) (M := rfM 0 M)
  have z0 : mdW h y ((iI 0, M.1.2), M.2) = mdW h y (rfM 0 M) := rfl
  have lp := sg_30 (d := d + 3) (h := h) (r := r) (y := y) (M := rfM 0 M) ht b2 b1 hZ P.1 0 (by omega)
  rw [show ((0 : Nat) : Int) = 0 from rfl, show sgN P t 0 = 0 from rfl, show ((0 : Nat) : Int) = 0 from rfl] at lp
  refine ⟨Z, hZ, ?_⟩
  simp (disch := omega) only [e247, r247_0, r247_1, r247_2, r247_5, r247_6, r247_7, r247_9, r247_12, r247_15, r247_16, r247_17, r247_20, r247_21, r247_22, r247_23, r247_26, r247_27, r247_28, r247_29, md_0, sB0i, md_th, z0, m0, s_mis, q1, p1, lp, kl_n, kl_i, kl_r, kl_z, kl_l, kl_d, catS_0, catS_c, cat_i, cat_l, cat_d, cat_r, cat_n, kC_r, kC_x, Option.bind_some, Option.toList_some, Option.toList_none, List.cons_append, List.nil_append, gB0, gB1, gB2, gB3, gB4, rvB, nI_iI, i0, i1, l0_, wr_s, aup_s, and_true, true_and, and_self, eq_self, if_true, if_false, Nat.zero_le, Nat.reduceAdd, Nat.reduceLeDiff, gN_I, gN_L, gN_P, bI_0, bI_ok, z0, z1, Bool.true_eq, Bool.false_eq_true, not_true_eq_false, not_false_eq_true]
theorem r_sounding_1 {t : Int} (b1 : -2147483648 ≤ t ∧ t < 2147483648) (ht : ¬ (0 ≤ t ∧ t ≤ 99999)) : aE (d + 5) 247 [.ref y, .int (iI t)] (mdW h y M, r) = some (.inl (some (.int (iI 0))), (mdW h y (rfM 1 M), r)) := by
  have m0 := md_0 (h := h) (y := y) (M := rfM 0 M)
  have z0 : mdW h y ((iI 0, M.1.2), M.2) = mdW h y (rfM 0 M) := rfl
  have rf := r_refuse (d := d + 3) (h := h) (r := r) (y := y) (M := rfM 0 M) (k := 1)
  have q1F := eq_false ht
  simp (disch := omega) only [e247, r247_0, r247_1, r247_2, r247_5, r247_6, r247_7, r247_9, r247_12, r247_15, r247_16, r247_17, r247_20, r247_21, r247_22, r247_23, r247_26, r247_27, r247_28, r247_29, md_0, sB0i, md_th, z0, m0, s_mis, q1F, rf, kl_n, kl_i, kl_r, kl_z, kl_l, kl_d, catS_0, catS_c, cat_i, cat_l, cat_d, cat_r, cat_n, kC_r, kC_x, Option.bind_some, Option.toList_some, Option.toList_none, List.cons_append, List.nil_append, gB0, gB1, gB2, gB3, gB4, rvB, nI_iI, i0, i1, l0_, wr_s, aup_s, and_true, true_and, and_self, eq_self, if_true, if_false, Nat.zero_le, Nat.reduceAdd, Nat.reduceLeDiff, gN_I, gN_L, gN_P, bI_0, bI_ok, z0, z1, Bool.true_eq, Bool.false_eq_true, not_true_eq_false, not_false_eq_true]
  rfl
/-- on or off in the reference's rows -/
def hv (C : Nat → Nat) : Nat → Nat := fun i => C i / 8
theorem mo_12 {C : Nat → Nat} {N : Nat} (hN : N ≤ 960) (hC : ∀ i, bd (C i)) : ∀ s k : Nat, k + s = N → L (d + 2) 248 12 [some (.ref y), some (.int (iI N)), some (.int (iI (gtI (hv C) k))), some (.int (iI (snI (hv C) k))), some (.int (iI k))] [] (mdW h y (roM M C), r) = some (.inl (some (.int (iI (gtI (hv C) N)))), (mdW h y (roM M C), r)) := by
  have m1 := md_0 (h := h) (y := y) (M := roM M C)
  have m2 : mdW h y (roM M C) (y + 530) = some (aL 960 (fun i => lI (C i))) := md_530
  intro s
  induction s with
  | zero =>
    intro k hk
    obtain rfl : k = N := by omega
    rw [r248_12]
    simp (disch := omega) only [r248_14, r248_15, r248_55, r248_56, iI_le, Int.le_refl, kl_n, kl_i, kl_r, kl_z, kl_l, kl_d, catS_0, catS_c, cat_i, cat_l, cat_d, cat_r, cat_n, kC_r, kC_x, Option.bind_some, Option.toList_some, Option.toList_none, List.cons_append, List.nil_append, gB0, gB1, gB2, gB3, gB4, rvB, nI_iI, i0, i1, l0_, wr_s, aup_s, and_true, true_and, and_self, eq_self, if_true, if_false, Nat.zero_le, Nat.reduceAdd, Nat.reduceLeDiff, gN_I, gN_L, gN_P, bI_0, bI_ok, z0, z1, Bool.true_eq, Bool.false_eq_true, not_true_eq_false, not_false_eq_true]
  | succ s ih =>
    intro k hk
    have c1 : ¬ (N : Int) ≤ k := by omega
    have gl : gL (some (aL 960 (fun i => lI (C i)))) (iI (k : Int)) = some (lI (C k)) := by
      have z := lw_g (h := h) (p := 0) (N := 960) (j := k) (C := C) (by omega) (by omega)
      rw [lw_at] at z
      exact z
    have bc : C k < 4398046511104 := hC k
    have h9 := ih (k + 1) (by omega)
    have e3 : (k : Int) + 1 = ((k + 1 : Nat) : Int) := by omega
    have gb := gtI_b (hv C) k
    have sb := snI_b (hv C) k
    have n0 : (0 : Int) ≤ (C k : Int) / 1048576 := by omega
    have es : snI (hv C) (k + 1) = snI (hv C) k + onI (hv C k) := rfl
    have eg : gtI (hv C) (k + 1) = max (gtI (hv C) k) (snI (hv C) (k + 1)) := rfl
    have ov : onI (hv C k) = if C k / 8 / 131072 % 2 = 1 then 1 else -1 := rfl
    have sb2 := snI_b (hv C) (k + 1)
    have mx := s_max (d := d + 1) (h := mdW h y (roM M C)) (r := r) (a := gtI (hv C) k) (b := snI (hv C) (k + 1)) (by omega) (by omega) (by omega) (by omega)
    rw [← eg] at mx
    rw [r248_12]
    by_cases c : C k / 8 / 131072 % 2 = 1
    · have c2 : (C k : Int) / 1048576 % 2 = 1 := by omega
      rw [if_pos c] at ov
      rw [ov] at es
      simp (disch := omega) only [r248_14, r248_15, r248_18, r248_19, r248_20, r248_23, r248_25, r248_26, r248_28, r248_29, r248_30, r248_31, r248_32, r248_33, r248_36, r248_37, r248_40, r248_41, r248_42, r248_43, r248_44, r248_45, r248_48, r248_49, r248_52, iI_le, c1, m1, mg13, m2, gl, i_l, lshs20, land1 n0, c2, lc_eq, lI_eq, iI_add, ← es, mx, e3, h9, kl_n, kl_i, kl_r, kl_z, kl_l, kl_d, catS_0, catS_c, cat_i, cat_l, cat_d, cat_r, cat_n, kC_r, kC_x, Option.bind_some, Option.toList_some, Option.toList_none, List.cons_append, List.nil_append, gB0, gB1, gB2, gB3, gB4, rvB, nI_iI, i0, i1, l0_, wr_s, aup_s, and_true, true_and, and_self, eq_self, if_true, if_false, Nat.zero_le, Nat.reduceAdd, Nat.reduceLeDiff, gN_I, gN_L, gN_P, bI_0, bI_ok, z0, z1, Bool.true_eq, Bool.false_eq_true, not_true_eq_false, not_false_eq_true]
    · have c2 : (C k : Int) / 1048576 % 2 = 0 := by omega
      have f0 : ¬ ((0 : Int) = 1) := by omega
      rw [if_neg c] at ov
      rw [ov] at es
      simp (disch := omega) only [r248_14, r248_15, r248_18, r248_19, r248_20, r248_23, r248_25, r248_26, r248_28, r248_29, r248_30, r248_31, r248_32, r248_33, r248_36, r248_37, r248_40, r248_41, r248_42, r248_43, r248_44, r248_45, r248_48, r248_49, r248_52, iI_le, c1, m1, mg13, m2, gl, i_l, lshs20, land1 n0, c2, lc_eq, lI_eq, f0, iI_add, ← es, mx, e3, h9, kl_n, kl_i, kl_r, kl_z, kl_l, kl_d, catS_0, catS_c, cat_i, cat_l, cat_d, cat_r, cat_n, kC_r, kC_x, Option.bind_some, Option.toList_some, Option.toList_none, List.cons_append, List.nil_append, gB0, gB1, gB2, gB3, gB4, rvB, nI_iI, i0, i1, l0_, wr_s, aup_s, and_true, true_and, and_self, eq_self, if_true, if_false, Nat.zero_le, Nat.reduceAdd, Nat.reduceLeDiff, gN_I, gN_L, gN_P, bI_0, bI_ok, z0, z1, Bool.true_eq, Bool.false_eq_true, not_true_eq_false, not_false_eq_true]
theorem r_mostNow (hd : 80 ≤ d) (hy : y + 531 ≤ n) (hR : rdH M m F X T S D lp) (hA : M.2.2.2.2.2.2.2.2 = fun i => lI (A i)) (hB : ∀ i, bd (A i)) : ∃ Z n' w' C, rwA (pA m F T S D lp) Z ∧ (n ≤ n' ∧ n' ≤ n + 2) ∧ w' ≤ w + 127 + 2 * (pA m F T S D lp).1 ∧ prm 0 (2 * (pA m F T S D lp).1) (rwE (pA m F T S D lp) (pA m F T S D lp).1 A) C ∧ sor C 0 (2 * (pA m F T S D lp).1) ∧ (∀ i, bd (C i)) ∧
    aE (d + 5) 248 [.ref y] (mdW h y M, n, w, g) = some (.inl (some (.int (iI (gtI (hv C) (2 * (pA m F T S D lp).1))))), (mdW h y (roM (plM M (pA m F T S D lp).1 Z) C), n', w', g)) := by
  obtain ⟨Z, n', w', C, c1, c2, c3, c4, c5, p1⟩ := r_eventsNow (d := d) (n := n) (w := w) (g := g) (h := h) (y := y) (M := M) (A := A) (X := X) hd hy hR hA hB
  obtain ⟨b1, b2⟩ := pA_n hR
  have c6 : ∀ i, bd (C i) := prm_bd c4 (rwE_bd b2 hB _ (Nat.le_refl _))
  refine ⟨Z, n', w', C, c1, c2, c3, c4, c5, c6, ?_⟩
  have m0 := md_0 (h := h) (y := y) (M := M)
  have lp := mo_12 (d := d + 2) (h := h) (r := (n', w', g)) (y := y) (M := plM M (pA m F T S D lp).1 Z) (C := C) (N := 2 * (pA m F T S D lp).1) (by omega) c6 (2 * (pA m F T S D lp).1) 0 (by omega)
  rw [show ((0 : Nat) : Int) = 0 from rfl, show gtI (hv C) 0 = 0 from rfl, show snI (hv C) 0 = 0 from rfl] at lp
  simp (disch := omega) only [e248, r248_0, r248_1, r248_4, r248_5, r248_6, r248_7, r248_8, r248_9, r248_10, m0, p1, lp, kl_n, kl_i, kl_r, kl_z, kl_l, kl_d, catS_0, catS_c, cat_i, cat_l, cat_d, cat_r, cat_n, kC_r, kC_x, Option.bind_some, Option.toList_some, Option.toList_none, List.cons_append, List.nil_append, gB0, gB1, gB2, gB3, gB4, rvB, nI_iI, i0, i1, l0_, wr_s, aup_s, and_true, true_and, and_self, eq_self, if_true, if_false, Nat.zero_le, Nat.reduceAdd, Nat.reduceLeDiff, gN_I, gN_L, gN_P, bI_0, bI_ok, z0, z1, Bool.true_eq, Bool.false_eq_true, not_true_eq_false, not_false_eq_true]
theorem r_most (hd : 80 ≤ d) (hy : y + 531 ≤ n) (hR : rdH M m F X T S D lp) (hA : M.2.2.2.2.2.2.2.2 = fun i => lI (A i)) (hB : ∀ i, bd (A i)) : ∃ Z n' w' C, rwA (pA m F T S D lp) Z ∧ (n ≤ n' ∧ n' ≤ n + 2) ∧ w' ≤ w + 127 + 2 * (pA m F T S D lp).1 ∧ prm 0 (2 * (pA m F T S D lp).1) (rwE (pA m F T S D lp) (pA m F T S D lp).1 A) C ∧ sor C 0 (2 * (pA m F T S D lp).1) ∧ (∀ i, bd (C i)) ∧
    aE (d + 6) 249 [.ref y] (mdW h y M, n, w, g) = some (.inl (some (.int (iI (gtI (hv C) (2 * (pA m F T S D lp).1))))), (mdW h y (roM (plM (rfM 0 M) (pA m F T S D lp).1 Z) C), n', w', g)) := by
  obtain ⟨Z, n', w', C, c1, c2, c3, c4, c5, c6, p1⟩ := r_mostNow (d := d) (n := n) (w := w) (g := g) (h := h) (y := y) (M := rfM 0 M) (A := A) (X := X) hd hy hR hA hB
  refine ⟨Z, n', w', C, c1, c2, c3, c4, c5, c6, ?_⟩
  have m0 := md_0 (h := h) (y := y) (M := rfM 0 M)
  have z0 : mdW h y ((iI 0, M.1.2), M.2) = mdW h y (rfM 0 M) := rfl
  simp (disch := omega) only [e249, r249_0, r249_1, r249_2, r249_5, r249_6, r249_9, md_0, sB0i, md_th, z0, p1, kl_n, kl_i, kl_r, kl_z, kl_l, kl_d, catS_0, catS_c, cat_i, cat_l, cat_d, cat_r, cat_n, kC_r, kC_x, Option.bind_some, Option.toList_some, Option.toList_none, List.cons_append, List.nil_append, gB0, gB1, gB2, gB3, gB4, rvB, nI_iI, i0, i1, l0_, wr_s, aup_s, and_true, true_and, and_self, eq_self, if_true, if_false, Nat.zero_le, Nat.reduceAdd, Nat.reduceLeDiff, gN_I, gN_L, gN_P, bI_0, bI_ok, z0, z1, Bool.true_eq, Bool.false_eq_true, not_true_eq_false, not_false_eq_true]
/-- the last tick -/
def laT (C : Nat → Nat) (N : Nat) : Nat := if N = 0 then 0 else C (N - 1) / 2097152
theorem r_playedToNow (hd : 80 ≤ d) (hy : y + 531 ≤ n) (hR : rdH M m F X T S D lp) (hA : M.2.2.2.2.2.2.2.2 = fun i => lI (A i)) (hB : ∀ i, bd (A i)) : ∃ Z n' w' C, rwA (pA m F T S D lp) Z ∧ (n ≤ n' ∧ n' ≤ n + 2) ∧ w' ≤ w + 127 + 2 * (pA m F T S D lp).1 ∧ prm 0 (2 * (pA m F T S D lp).1) (rwE (pA m F T S D lp) (pA m F T S D lp).1 A) C ∧ sor C 0 (2 * (pA m F T S D lp).1) ∧ (∀ i, bd (C i)) ∧
    aE (d + 5) 250 [.ref y] (mdW h y M, n, w, g) = some (.inl (some (.int (iI (laT C (2 * (pA m F T S D lp).1))))), (mdW h y (roM (plM M (pA m F T S D lp).1 Z) C), n', w', g)) := by
  obtain ⟨Z, n', w', C, c1, c2, c3, c4, c5, p1⟩ := r_eventsNow (d := d) (n := n) (w := w) (g := g) (h := h) (y := y) (M := M) (A := A) (X := X) hd hy hR hA hB
  obtain ⟨b1, b2⟩ := pA_n hR
  have c6 : ∀ i, bd (C i) := prm_bd c4 (rwE_bd b2 hB _ (Nat.le_refl _))
  refine ⟨Z, n', w', C, c1, c2, c3, c4, c5, c6, ?_⟩
  have m0 := md_0 (h := h) (y := y) (M := M)
  generalize (pA m F T S D lp) = P at *
  have m1 := md_0 (h := h) (y := y) (M := roM (plM M P.1 Z) C)
  have m2 : mdW h y (roM (plM M P.1 Z) C) (y + 530) = some (aL 960 (fun i => lI (C i))) := md_530
  by_cases c : P.1 = 0
  · have e1 : ((2 * P.1 : Nat) : Int) = 0 := by omega
    have e2 : laT C (2 * P.1) = 0 := if_pos (by omega)
    rw [e2]
    simp (disch := omega) only [e250, r250_0, r250_1, r250_4, r250_5, r250_6, r250_9, r250_10, r250_25, m0, p1, iI_eq, e1, kl_n, kl_i, kl_r, kl_z, kl_l, kl_d, catS_0, catS_c, cat_i, cat_l, cat_d, cat_r, cat_n, kC_r, kC_x, Option.bind_some, Option.toList_some, Option.toList_none, List.cons_append, List.nil_append, gB0, gB1, gB2, gB3, gB4, rvB, nI_iI, i0, i1, l0_, wr_s, aup_s, and_true, true_and, and_self, eq_self, if_true, if_false, Nat.zero_le, Nat.reduceAdd, Nat.reduceLeDiff, gN_I, gN_L, gN_P, bI_0, bI_ok, z0, z1, Bool.true_eq, Bool.false_eq_true, not_true_eq_false, not_false_eq_true]
    rfl
  · have e1 : ¬ ((2 * P.1 : Nat) : Int) = 0 := by omega
    have e2 : laT C (2 * P.1) = rFact (C (2 * P.1 - 1)) 0 := if_neg (by omega)
    have e3 : ((2 * P.1 : Nat) : Int) - 1 = ((2 * P.1 - 1 : Nat) : Int) := by omega
    have gl : gL (some (aL 960 (fun i => lI (C i)))) (iI ((2 * P.1 - 1 : Nat) : Int)) = some (lI (C (2 * P.1 - 1))) := by
      have z := lw_g (h := h) (p := 0) (N := 960) (j := 2 * P.1 - 1) (C := C) (by omega) (by omega)
      rw [lw_at] at z
      exact z
    have tl := r_told (d := d + 3) (H := (mdW h y (roM (plM M P.1 Z) C), n', w', g)) (e := C (2 * P.1 - 1)) (w := 0) (c6 _) (by omega)
    rw [show ((0 : Nat) : Int) = 0 from rfl] at tl
    rw [e2]
    simp (disch := omega) only [e250, r250_0, r250_1, r250_4, r250_5, r250_6, r250_9, r250_10, r250_13, r250_14, r250_17, r250_18, r250_19, r250_20, r250_21, r250_22, r250_25, m0, p1, iI_eq, e1, m1, mg13, iI_sub, e3, m2, gl, tl, kl_n, kl_i, kl_r, kl_z, kl_l, kl_d, catS_0, catS_c, cat_i, cat_l, cat_d, cat_r, cat_n, kC_r, kC_x, Option.bind_some, Option.toList_some, Option.toList_none, List.cons_append, List.nil_append, gB0, gB1, gB2, gB3, gB4, rvB, nI_iI, i0, i1, l0_, wr_s, aup_s, and_true, true_and, and_self, eq_self, if_true, if_false, Nat.zero_le, Nat.reduceAdd, Nat.reduceLeDiff, gN_I, gN_L, gN_P, bI_0, bI_ok, z0, z1, Bool.true_eq, Bool.false_eq_true, not_true_eq_false, not_false_eq_true]
theorem r_playedTo (hd : 80 ≤ d) (hy : y + 531 ≤ n) (hR : rdH M m F X T S D lp) (hA : M.2.2.2.2.2.2.2.2 = fun i => lI (A i)) (hB : ∀ i, bd (A i)) : ∃ Z n' w' C, rwA (pA m F T S D lp) Z ∧ (n ≤ n' ∧ n' ≤ n + 2) ∧ w' ≤ w + 127 + 2 * (pA m F T S D lp).1 ∧ prm 0 (2 * (pA m F T S D lp).1) (rwE (pA m F T S D lp) (pA m F T S D lp).1 A) C ∧ sor C 0 (2 * (pA m F T S D lp).1) ∧ (∀ i, bd (C i)) ∧
    aE (d + 6) 251 [.ref y] (mdW h y M, n, w, g) = some (.inl (some (.int (iI (laT C (2 * (pA m F T S D lp).1))))), (mdW h y (roM (plM (rfM 0 M) (pA m F T S D lp).1 Z) C), n', w', g)) := by
  obtain ⟨Z, n', w', C, c1, c2, c3, c4, c5, c6, p1⟩ := r_playedToNow (d := d) (n := n) (w := w) (g := g) (h := h) (y := y) (M := rfM 0 M) (A := A) (X := X) hd hy hR hA hB
  refine ⟨Z, n', w', C, c1, c2, c3, c4, c5, c6, ?_⟩
  have m0 := md_0 (h := h) (y := y) (M := rfM 0 M)
  have z0 : mdW h y ((iI 0, M.1.2), M.2) = mdW h y (rfM 0 M) := rfl
  simp (disch := omega) only [e251, r251_0, r251_1, r251_2, r251_5, r251_6, r251_9, md_0, sB0i, md_th, z0, p1, kl_n, kl_i, kl_r, kl_z, kl_l, kl_d, catS_0, catS_c, cat_i, cat_l, cat_d, cat_r, cat_n, kC_r, kC_x, Option.bind_some, Option.toList_some, Option.toList_none, List.cons_append, List.nil_append, gB0, gB1, gB2, gB3, gB4, rvB, nI_iI, i0, i1, l0_, wr_s, aup_s, and_true, true_and, and_self, eq_self, if_true, if_false, Nat.zero_le, Nat.reduceAdd, Nat.reduceLeDiff, gN_I, gN_L, gN_P, bI_0, bI_ok, z0, z1, Bool.true_eq, Bool.false_eq_true, not_true_eq_false, not_false_eq_true]
theorem r_eventsOf {t : Nat} (ht : t < 6) (hR : rdH M m F X T S D lp) : ∃ Z, rwA (pT m F S D lp t) Z ∧ aE (d + 4) 255 [.ref y, .int (iI t)] (mdW h y M, r) = some (.inl (some (.int (iI (2 * (pT m F S D lp t).1 : Nat)))), (mdW h y (plM M (pT m F S D lp t).1 Z), r)) := by
  obtain ⟨Z, hZ, p1⟩ := r_renderT (d := d) (h := h) (r := r) (y := y) (M := M) (X := X) ht hR
  refine ⟨Z, hZ, ?_⟩
  generalize pT m F S D lp t = P at *
  have m0 := md_0 (h := h) (y := y) (M := M)
  have m1 := md_0 (h := h) (y := y) (M := plM M P.1 Z)
  have p0 : (plM M P.1 Z).1.2.2.2.2.2.1 = iI P.1 := rfl
  have e1 : 2 * (P.1 : Int) = ((2 * P.1 : Nat) : Int) := by omega
  simp (disch := omega) only [e255, r255_0, r255_1, r255_2, r255_5, r255_6, r255_7, r255_10, r255_11, m0, p1, m1, mg12, p0, iI_mul, e1, kl_n, kl_i, kl_r, kl_z, kl_l, kl_d, catS_0, catS_c, cat_i, cat_l, cat_d, cat_r, cat_n, kC_r, kC_x, Option.bind_some, Option.toList_some, Option.toList_none, List.cons_append, List.nil_append, gB0, gB1, gB2, gB3, gB4, rvB, nI_iI, i0, i1, l0_, wr_s, aup_s, and_true, true_and, and_self, eq_self, if_true, if_false, Nat.zero_le, Nat.reduceAdd, Nat.reduceLeDiff, gN_I, gN_L, gN_P, bI_0, bI_ok, z0, z1, Bool.true_eq, Bool.false_eq_true, not_true_eq_false, not_false_eq_true]
theorem r_eventsAlone {t : Nat} (ht : t < 6) (hR : rdH M m F X T S D lp) : ∃ Z, rwA (pT m F S D lp t) Z ∧ aE (d + 5) 256 [.ref y, .int (iI t)] (mdW h y M, r) = some (.inl (some (.int (iI (2 * (pT m F S D lp t).1 : Nat)))), (mdW h y (plM (rfM 0 M) (pT m F S D lp t).1 Z), r)) := by
  obtain ⟨Z, hZ, p1⟩ := r_eventsOf (d := d) (h := h) (r := r) (y := y) (M := rfM 0 M) (X := X) ht hR
  refine ⟨Z, hZ, ?_⟩
  have m0 := md_0 (h := h) (y := y) (M := rfM 0 M)
  have z0 : mdW h y ((iI 0, M.1.2), M.2) = mdW h y (rfM 0 M) := rfl
  have q1 : (0 : Int) ≤ (t : Int) ∧ (t : Int) ≤ 5 := by omega
  simp (disch := omega) only [e256, r256_0, r256_1, r256_2, r256_5, r256_6, r256_9, r256_12, r256_13, r256_14, r256_17, r256_20, r256_21, r256_22, r256_25, md_0, sB0i, md_th, z0, m0, s_mTrack, q1, p1, kl_n, kl_i, kl_r, kl_z, kl_l, kl_d, catS_0, catS_c, cat_i, cat_l, cat_d, cat_r, cat_n, kC_r, kC_x, Option.bind_some, Option.toList_some, Option.toList_none, List.cons_append, List.nil_append, gB0, gB1, gB2, gB3, gB4, rvB, nI_iI, i0, i1, l0_, wr_s, aup_s, and_true, true_and, and_self, eq_self, if_true, if_false, Nat.zero_le, Nat.reduceAdd, Nat.reduceLeDiff, gN_I, gN_L, gN_P, bI_0, bI_ok, z0, z1, Bool.true_eq, Bool.false_eq_true, not_true_eq_false, not_false_eq_true]
theorem r_eventsAlone_1 {t : Int} (b1 : -2147483648 ≤ t ∧ t < 2147483648) (ht : ¬ (0 ≤ t ∧ t ≤ 5)) : aE (d + 5) 256 [.ref y, .int (iI t)] (mdW h y M, r) = some (.inl (some (.int (iI 0))), (mdW h y (rfM 1 M), r)) := by
  have m0 := md_0 (h := h) (y := y) (M := rfM 0 M)
  have z0 : mdW h y ((iI 0, M.1.2), M.2) = mdW h y (rfM 0 M) := rfl
  have rf := r_refuse (d := d + 3) (h := h) (r := r) (y := y) (M := rfM 0 M) (k := 1)
  have q1F := eq_false ht
  simp (disch := omega) only [e256, r256_0, r256_1, r256_2, r256_5, r256_6, r256_9, r256_12, r256_13, r256_14, r256_17, r256_20, r256_21, r256_22, r256_25, md_0, sB0i, md_th, z0, m0, s_mTrack, q1F, rf, kl_n, kl_i, kl_r, kl_z, kl_l, kl_d, catS_0, catS_c, cat_i, cat_l, cat_d, cat_r, cat_n, kC_r, kC_x, Option.bind_some, Option.toList_some, Option.toList_none, List.cons_append, List.nil_append, gB0, gB1, gB2, gB3, gB4, rvB, nI_iI, i0, i1, l0_, wr_s, aup_s, and_true, true_and, and_self, eq_self, if_true, if_false, Nat.zero_le, Nat.reduceAdd, Nat.reduceLeDiff, gN_I, gN_L, gN_P, bI_0, bI_ok, z0, z1, Bool.true_eq, Bool.false_eq_true, not_true_eq_false, not_false_eq_true]
  rfl
end
