/-! ===== the reference's events ===== -/
def vR (t o c : Nat) : Nat := (t * 2 + o) * 1048576 + ((cT c * 128 + cP c) * 128 + cF c)
def rwE (P : PV) : Nat → (Nat → Nat) → (Nat → Nat)
  | 0, A => A
  | k + 1, A => upN (upN (rwE P k A) (2 * k) (vR (P.2 k).1 1 (P.2 k).2.2)) (2 * k + 1) (vR ((P.2 k).1 + (P.2 k).2.1) 0 (P.2 k).2.2)
/-- plays in their bounds -/
def pvB (P : PV) : Prop := ∀ j, j < P.1 → (P.2 j).1 ≤ 130000 ∧ (P.2 j).2.1 ≤ 1023 ∧ cOk (P.2 j).2.2
theorem vR_bd {t o c : Nat} (ht : t ≤ 140000) (ho : o ≤ 1) (hc : cOk c) : bd (vR t o c) := by
  have a1 := cT_lt hc
  have a4 := cP_lt c
  have a5 := cF_lt c
  unfold bd vR
  omega
theorem rwE_bd {P : PV} {A : Nat → Nat} (hP : pvB P) (hA : ∀ j, bd (A j)) : ∀ k, k ≤ P.1 → ∀ j, bd (rwE P k A j)
  | 0, _ => hA
  | k + 1, hk => fun j => by
    have ⟨h1, h2, h3⟩ := hP k (by omega)
    show bd (upN (upN _ _ _) _ _ j)
    unfold upN
    split
    · exact vR_bd (by omega) (by omega) h3
    · split
      · exact vR_bd (by omega) (by omega) h3
      · exact rwE_bd hP hA k (by omega) j
theorem pvB_A {P : PV} {v : Nat × Nat × Nat} (h : pvB P) (hv : v.1 ≤ 130000 ∧ v.2.1 ≤ 1023 ∧ cOk v.2.2) : pvB (pvA P v) := fun j hj => by
  have hj2 : j < P.1 + 1 := hj
  show (if j = P.1 then v else P.2 j).1 ≤ _ ∧ (if j = P.1 then v else P.2 j).2.1 ≤ _ ∧ cOk (if j = P.1 then v else P.2 j).2.2
  by_cases e : j = P.1
  · rw [if_pos e]
    exact hv
  · rw [if_neg e]
    exact h j (by omega)
section
variable {S D : Nat → Int} {F : Nat → Nat} {P : PV} {q : Nat → Bool}
theorem ply_B {c k : Nat} {l : Int} (h : pvB P) (hc : cOk c) (hl : l ≤ 100000) (hD : ∀ t, -48 ≤ D t ∧ D t ≤ 48) : pvB (ply S D c l k P) := by
  have a2 := cS_lt c
  have a3 := cL_lt c
  have hD' := hD (cT c)
  unfold ply
  split
  · exact pvB_A h ⟨by show (max 0 ((cS c : Int) + l + D (cT c))).toNat ≤ _; omega, by show min k (cL c) ≤ _; omega, wpC_ok hc (by omega)⟩
  · exact h
theorem plyL_B {c a b : Nat} (h : pvB P) (hc : cOk c) (ha : a ≤ 9600) (hb : b ≤ 9600) (hD : ∀ t, -48 ≤ D t ∧ D t ≤ 48) : ∀ j, j ≤ 8 → pvB (plyL S D c a b j P)
  | 0, _ => h
  | j + 1, hj => by
    have b2 := rnd_b (a := a) (b := b) (show j ≤ 8 by omega) ha hb
    exact ply_B (plyL_B h hc ha hb hD j (by omega)) hc (by omega) hD
theorem plyN_B {c : Nat} {lp : LPv} (h : pvB P) (hc : cOk c) (ha : lp.1 ≤ 9600) (hb : lp.2.1 ≤ 9600) (hz : lp.2.2 ≤ 8) (hD : ∀ t, -48 ≤ D t ∧ D t ≤ 48) : pvB (plyN S D c lp P) := by
  unfold plyN
  split
  · exact plyL_B h hc ha hb hD _ hz
  · refine ply_B h hc ?_ hD
    split
    · have e0 : (lp.2.2 : Int) - 1 = ((lp.2.2 - 1 : Nat) : Int) := by omega
      have b2 := rnd_b (show lp.2.2 - 1 ≤ 8 by omega) ha hb
      rw [e0]
      omega
    · omega
theorem plyT_B {lp : LPv} (h : pvB P) (hF : ∀ i, cOk (F i)) (ha : lp.1 ≤ 9600) (hb : lp.2.1 ≤ 9600) (hz : lp.2.2 ≤ 8) (hD : ∀ t, -48 ≤ D t ∧ D t ≤ 48) : ∀ k, pvB (plyT S D q F lp k P)
  | 0 => h
  | k + 1 => by
    unfold plyT
    split
    · exact plyN_B (plyT_B h hF ha hb hz hD k) (hF k) ha hb hz hD
    · exact plyT_B h hF ha hb hz hD k
end
/-- the rows of events changed -/
def roM (M : Md) (C : Nat → Nat) : Md := (M.1, M.2.1, M.2.2.1, M.2.2.2.1, M.2.2.2.2.1, M.2.2.2.2.2.1, M.2.2.2.2.2.2.1, M.2.2.2.2.2.2.2.1, fun i => lI (C i))
section
variable {d n w : Nat} {g : Nat × Nat} {h : aHf} {r : Nat × Nat × Nat × Nat} {y : Nat} {M : Md} {P : PV} {Z : Nat → Nat → Int32} {A : Nat → Nat}
theorem lw_ro {C : Nat → Nat} : lw (mdW h y M) (y + 530) 960 C = mdW h y (roM M C) := md_w
theorem sh20 (a : Int) : lI a <<< (lI 20 &&& 63) = lI (a * 1048576) := by
  have z := lshl20 a
  rw [i_l (by omega) (by omega)] at z
  exact z
theorem ev_7 (hP : pvB P) (hn : P.1 ≤ 480) (hZ : rwA P Z) : ∀ s k : Nat, k + s = P.1 → ∀ l2 : Option Value, ∃ l2', L (d + 1) 240 7 [some (.ref y), some (.int (iI k)), l2, none] [] (mdW h y (roM (plM M P.1 Z) (rwE P k A)), r) = L (d + 1) 240 124 [some (.ref y), some (.int (iI P.1)), l2', none] [] (mdW h y (roM (plM M P.1 Z) (rwE P P.1 A)), r) := by
  intro s
  induction s with
  | zero =>
    intro k hk l2
    obtain rfl : k = P.1 := by omega
    refine ⟨l2, ?_⟩
    have m0 := md_0 (h := h) (y := y) (M := roM (plM M P.1 Z) (rwE P P.1 A))
    have p0 : (roM (plM M P.1 Z) (rwE P P.1 A)).1.2.2.2.2.2.1 = iI P.1 := rfl
    rw [r240_7]
    simp (disch := omega) only [r240_8, r240_9, r240_12, m0, mg12, p0, iI_le, Int.le_refl, kl_n, kl_i, kl_r, kl_z, kl_l, kl_d, catS_0, catS_c, cat_i, cat_l, cat_d, cat_r, cat_n, kC_r, kC_x, Option.bind_some, Option.toList_some, Option.toList_none, List.cons_append, List.nil_append, gB0, gB1, gB2, gB3, gB4, rvB, nI_iI, i0, i1, l0_, wr_s, aup_s, and_true, true_and, and_self, eq_self, if_true, if_false, Nat.zero_le, Nat.reduceAdd, Nat.reduceLeDiff, gN_I, gN_L, gN_P, bI_0, bI_ok, z0, z1, Bool.true_eq, Bool.false_eq_true, not_true_eq_false, not_false_eq_true]
  | succ s ih =>
    intro k hk l2
    have hkP : k < P.1 := by omega
    have hk4 : k < 480 := by omega
    obtain ⟨z0, z1, z2, z3, z4⟩ := hZ k hkP
    obtain ⟨b1, b2, b3⟩ := hP k hkP
    have a1 := cT_lt b3
    have a4 := cP_lt (P.2 k).2.2
    have a5 := cF_lt (P.2 k).2.2
    obtain ⟨B, hB⟩ : ∃ B, B = rwE P k A := ⟨_, rfl⟩
    obtain ⟨B1, hB1⟩ : ∃ B1, B1 = upN B (2 * k) (vR (P.2 k).1 1 (P.2 k).2.2) := ⟨_, rfl⟩
    have hB2 : rwE P (k + 1) A = upN B1 (2 * k + 1) (vR ((P.2 k).1 + (P.2 k).2.1) 0 (P.2 k).2.2) := by rw [hB1, hB]; rfl
    obtain ⟨l2', p2⟩ := ih (k + 1) (by omega) (some (.long (lI (((cT (P.2 k).2.2 : Int) * 128 + (cP (P.2 k).2.2 : Int)) * 128 + (cF (P.2 k).2.2 : Int)))))
    refine ⟨l2', ?_⟩
    rw [← p2, hB2, ← hB]
    have m0 : ∀ C, mdW h y (roM (plM M P.1 Z) C) y = _ := fun C => md_0 (h := h) (y := y) (M := roM (plM M P.1 Z) C)
    have p0 : ∀ C, (roM (plM M P.1 Z) C).1.2.2.2.2.2.1 = iI P.1 := fun C => rfl
    have m49 : ∀ C, mdW h y (roM (plM M P.1 Z) C) (y + 49) = _ := fun C => md_49 (h := h) (y := y) (M := roM (plM M P.1 Z) C)
    have mp : ∀ C, mdW h y (roM (plM M P.1 Z) C) (y + 50 + k) = some (aI .int 5 (Z k)) := fun C => md_p (h := h) (y := y) (M := roM (plM M P.1 Z) C) hk4
    have gp : gP (some (aP (.array .int) 480 (fun i => if i < 480 then some (y + 50 + i) else none))) (iI (k : Int)) = some (.ref (y + 50 + k)) := by
      rw [gP_P (by omega) (by omega) (by omega), Int.toNat_natCast, if_pos hk4]
      rfl
    have gi : ∀ j : Nat, j < 5 → gI (some (aI .int 5 (Z k))) (iI (j : Int)) = some (Z k j) := fun j hj => gI_N (by omega) (by omega)
    have g0 := gi 0 (by omega)
    have g1 := gi 1 (by omega)
    have g2 := gi 2 (by omega)
    have g3 := gi 3 (by omega)
    have g4 := gi 4 (by omega)
    rw [show ((0 : Nat) : Int) = 0 from rfl, z0] at g0
    rw [show ((1 : Nat) : Int) = 1 from rfl, z1] at g1
    rw [show ((2 : Nat) : Int) = 2 from rfl, z2] at g2
    rw [show ((3 : Nat) : Int) = 3 from rfl, z3] at g3
    rw [show ((4 : Nat) : Int) = 4 from rfl, z4] at g4
    have c1 : ¬ (P.1 : Int) ≤ k := by omega
    have m530 : ∀ C, mdW h y (roM (plM M P.1 Z) C) (y + 530) = some (aL 960 (fun i => lI (C i))) := fun C => md_530
    have e1 : 2 * (k : Int) = ((2 * k : Nat) : Int) := by omega
    have e2 : ((2 * k : Nat) : Int) + 1 = ((2 * k + 1 : Nat) : Int) := by omega
    have e3 : (k : Int) + 1 = ((k + 1 : Nat) : Int) := by omega
    have e4 : ((((P.2 k).1 : Nat) : Int) * 2 + 1) * 1048576 + (((cT (P.2 k).2.2 : Int) * 128 + (cP (P.2 k).2.2 : Int)) * 128 + (cF (P.2 k).2.2 : Int)) = ((vR (P.2 k).1 1 (P.2 k).2.2 : Nat) : Int) := by unfold vR; omega
    have e5 : ((((P.2 k).1 : Nat) : Int) + (((P.2 k).2.1 : Nat) : Int)) * 2 * 1048576 + (((cT (P.2 k).2.2 : Int) * 128 + (cP (P.2 k).2.2 : Int)) * 128 + (cF (P.2 k).2.2 : Int)) = ((vR ((P.2 k).1 + (P.2 k).2.1) 0 (P.2 k).2.2 : Nat) : Int) := by unfold vR; omega
    have s1 : sL (some (aL 960 (fun i => lI (B i)))) (iI ((2 * k : Nat) : Int)) (lI ((vR (P.2 k).1 1 (P.2 k).2.2 : Nat) : Int)) = some (aL 960 (fun i => lI (B1 i))) := by
      have z := lw_s (h := h) (p := 0) (N := 960) (j := 2 * k) (x := vR (P.2 k).1 1 (P.2 k).2.2) (C := B) (by omega) (by omega)
      rw [lw_at, ← hB1] at z
      exact z
    have s2 : sL (some (aL 960 (fun i => lI (B1 i)))) (iI ((2 * k + 1 : Nat) : Int)) (lI ((vR ((P.2 k).1 + (P.2 k).2.1) 0 (P.2 k).2.2 : Nat) : Int)) = some (aL 960 (fun i => lI (upN B1 (2 * k + 1) (vR ((P.2 k).1 + (P.2 k).2.1) 0 (P.2 k).2.2) i))) := by
      have z := lw_s (h := h) (p := 0) (N := 960) (j := 2 * k + 1) (x := vR ((P.2 k).1 + (P.2 k).2.1) 0 (P.2 k).2.2) (C := B1) (by omega) (by omega)
      rw [lw_at] at z
      exact z
    have mw : ∀ C D : Nat → Nat, aup (mdW h y (roM (plM M P.1 Z) C)) (y + 530) (aL 960 (fun i => lI (D i))) = mdW h y (roM (plM M P.1 Z) D) := fun C D => md_w
    rw [r240_7]
    simp (disch := omega) only [r240_8, r240_9, r240_12, r240_15, r240_16, r240_19, r240_20, r240_21, r240_22, r240_23, r240_24, r240_27, r240_28, r240_29, r240_32, r240_33, r240_34, r240_35, r240_36, r240_37, r240_38, r240_41, r240_42, r240_43, r240_46, r240_47, r240_48, r240_49, r240_50, r240_51, r240_52, m0, mg11, mg12, p0, iI_le, c1, m49, gp, mp, g2, g3, g4, i_l, lI_mul, lI_add, kl_n, kl_i, kl_r, kl_z, kl_l, kl_d, catS_0, catS_c, cat_i, cat_l, cat_d, cat_r, cat_n, kC_r, kC_x, Option.bind_some, Option.toList_some, Option.toList_none, List.cons_append, List.nil_append, gB0, gB1, gB2, gB3, gB4, rvB, nI_iI, i0, i1, l0_, wr_s, aup_s, and_true, true_and, and_self, eq_self, if_true, if_false, Nat.zero_le, Nat.reduceAdd, Nat.reduceLeDiff, gN_I, gN_L, gN_P, bI_0, bI_ok, z0, z1, Bool.true_eq, Bool.false_eq_true, not_true_eq_false, not_false_eq_true]
    simp (disch := omega) only [r240_53, r240_54, r240_57, r240_58, r240_59, r240_60, r240_61, r240_64, r240_65, r240_66, r240_67, r240_68, r240_69, r240_72, r240_73, r240_74, r240_75, r240_77, r240_78, r240_79, r240_80, m0, mg11, mg13, iI_mul, e1, m49, gp, mp, g0, i_l, lI_mul, lI_add, sh20, e4, m530, s1, mw, kl_n, kl_i, kl_r, kl_z, kl_l, kl_d, catS_0, catS_c, cat_i, cat_l, cat_d, cat_r, cat_n, kC_r, kC_x, Option.bind_some, Option.toList_some, Option.toList_none, List.cons_append, List.nil_append, gB0, gB1, gB2, gB3, gB4, rvB, nI_iI, i0, i1, l0_, wr_s, aup_s, and_true, true_and, and_self, eq_self, if_true, if_false, Nat.zero_le, Nat.reduceAdd, Nat.reduceLeDiff, gN_I, gN_L, gN_P, bI_0, bI_ok, z0, z1, Bool.true_eq, Bool.false_eq_true, not_true_eq_false, not_false_eq_true]
    simp (disch := omega) only [r240_81, r240_82, r240_85, r240_86, r240_87, r240_88, r240_89, r240_90, r240_91, r240_94, r240_95, r240_96, r240_97, r240_98, r240_99, r240_102, r240_103, r240_104, r240_105, r240_106, r240_107, r240_108, r240_111, r240_112, r240_114, r240_115, r240_116, r240_117, r240_118, r240_121, m0, mg11, mg13, iI_mul, iI_add, e1, e2, m49, gp, mp, g0, g1, i_l, lI_mul, lI_add, sh20, e5, m530, s2, mw, e3, kl_n, kl_i, kl_r, kl_z, kl_l, kl_d, catS_0, catS_c, cat_i, cat_l, cat_d, cat_r, cat_n, kC_r, kC_x, Option.bind_some, Option.toList_some, Option.toList_none, List.cons_append, List.nil_append, gB0, gB1, gB2, gB3, gB4, rvB, nI_iI, i0, i1, l0_, wr_s, aup_s, and_true, true_and, and_self, eq_self, if_true, if_false, Nat.zero_le, Nat.reduceAdd, Nat.reduceLeDiff, gN_I, gN_L, gN_P, bI_0, bI_ok, z0, z1, Bool.true_eq, Bool.false_eq_true, not_true_eq_false, not_false_eq_true]
/-- all that the reference needs to render -/
def rdH (M : Md) (m : Nat) (F : Nat → Nat) (X : Nat → Int32) (T : Nat → Nat) (S D : Nat → Int) (lp : LPv) : Prop := M.2.1 = nB m F X ∧ m ≤ 60 ∧ (∀ i, cOk (F i)) ∧ (∀ i, i < m → cT (F i) < 6) ∧ trA M.2.1 T S D ∧ (∀ t, T t < 4) ∧ (∀ t, -24 ≤ S t ∧ S t ≤ 24) ∧ (∀ t, -48 ≤ D t ∧ D t ≤ 48) ∧ (M.2.1 382 = iI lp.1 ∧ M.2.1 383 = iI lp.2.1 ∧ M.2.1 384 = iI lp.2.2) ∧ lp.2.2 ≤ 8 ∧ (0 < lp.2.2 → lp.1 < lp.2.1) ∧ lp.2.1 ≤ 9600 ∧ lp.1 ≤ 9600
/-- what it plays: all, or a track alone -/
def pA (m : Nat) (F : Nat → Nat) (T : Nat → Nat) (S D : Nat → Int) (lp : LPv) : PV := plyT S D (fun t => decide (hrd T t)) F lp m (0, fun _ => (0, 0, 0))
def pT (m : Nat) (F : Nat → Nat) (S D : Nat → Int) (lp : LPv) (t : Nat) : PV := plyT S D (fun u => decide (u = t)) F lp m (0, fun _ => (0, 0, 0))
theorem bI_c {p q : Prop} [Decidable p] [Decidable q] (h : p ↔ q) : bI p = bI q := by
  unfold bI
  by_cases e : p
  · rw [if_pos e, if_pos (h.mp e)]
  · rw [if_neg e, if_neg (fun z => e (h.mpr z))]
variable {m : Nat} {F : Nat → Nat} {X : Nat → Int32} {T : Nat → Nat} {S D : Nat → Int} {lp : LPv}
theorem pA_n (hR : rdH M m F X T S D lp) : (pA m F T S D lp).1 ≤ 480 ∧ pvB (pA m F T S D lp) := by
  obtain ⟨k1, k2, k3, k4, k5, k6, k7, k8, k9, k10, k11, k12, k13⟩ := hR
  have z : (plyT S D (fun t => decide (hrd T t)) F lp m (0, fun _ => (0, 0, 0))).1 ≤ 0 + 8 * m := plyT_n k10 m
  exact ⟨by unfold pA; omega, plyT_B (fun j hj => absurd hj (Nat.not_lt_zero j)) k3 k13 k12 k10 k8 m⟩
theorem pT_n {t : Nat} (hR : rdH M m F X T S D lp) : (pT m F S D lp t).1 ≤ 480 ∧ pvB (pT m F S D lp t) := by
  obtain ⟨k1, k2, k3, k4, k5, k6, k7, k8, k9, k10, k11, k12, k13⟩ := hR
  have z : (plyT S D (fun u => decide (u = t)) F lp m (0, fun _ => (0, 0, 0))).1 ≤ 0 + 8 * m := plyT_n k10 m
  exact ⟨by unfold pT; omega, plyT_B (fun j hj => absurd hj (Nat.not_lt_zero j)) k3 k13 k12 k10 k8 m⟩
theorem r_renderA (hR : rdH M m F X T S D lp) : ∃ Z, rwA (pA m F T S D lp) Z ∧ aE (d + 3) 239 [.ref y, .int (iI (-1))] (mdW h y M, r) = some (.inl none, (mdW h y (plM M (pA m F T S D lp).1 Z), r)) := by
  obtain ⟨k1, k2, k3, k4, k5, k6, k7, k8, ⟨k9, k9', k9''⟩, k10, k11, k12, k13⟩ := hR
  refine r_render (d := d) (h := h) (r := r) (y := y) (M := M) (o := iI (-1)) k1 k2 k3 k4 k5 k7 k8 k9 k9' k9'' k10 k11 k12 k13 (fun i np Z hi => ?_)
  have z := r_isHeard (d := d) (h := h) (r := r) (y := y) (M := plM M np Z) (T := T) (S := S) (D := D) (t := cT (F i)) k5 k6 (k4 i hi)
  rw [z, bI_c (p := hrd T (cT (F i))) (q := decide (hrd T (cT (F i))) = true) (decide_eq_true_iff.symm)]
theorem r_renderT {t : Nat} (ht : t < 6) (hR : rdH M m F X T S D lp) : ∃ Z, rwA (pT m F S D lp t) Z ∧ aE (d + 3) 239 [.ref y, .int (iI t)] (mdW h y M, r) = some (.inl none, (mdW h y (plM M (pT m F S D lp t).1 Z), r)) := by
  obtain ⟨k1, k2, k3, k4, k5, k6, k7, k8, ⟨k9, k9', k9''⟩, k10, k11, k12, k13⟩ := hR
  refine r_render (d := d) (h := h) (r := r) (y := y) (M := M) (o := iI t) k1 k2 k3 k4 k5 k7 k8 k9 k9' k9'' k10 k11 k12 k13 (fun i np Z hi => ?_)
  have z := r_isHeardO (d := d) (h := h) (r := r) (y := y) (M := plM M np Z) (t := cT (F i)) (o := t) (by have := k4 i hi; omega) ht
  rw [z, bI_c (p := cT (F i) = t) (q := decide (cT (F i) = t) = true) (decide_eq_true_iff.symm)]
theorem r_eventsNow (hd : 80 ≤ d) (hy : y + 531 ≤ n) (hR : rdH M m F X T S D lp) (hA : M.2.2.2.2.2.2.2.2 = fun i => lI (A i)) (hB : ∀ i, bd (A i)) : ∃ Z n' w' C, rwA (pA m F T S D lp) Z ∧ (n ≤ n' ∧ n' ≤ n + 2) ∧ w' ≤ w + 127 + 2 * (pA m F T S D lp).1 ∧
    prm 0 (2 * (pA m F T S D lp).1) (rwE (pA m F T S D lp) (pA m F T S D lp).1 A) C ∧ sor C 0 (2 * (pA m F T S D lp).1) ∧
    aE (d + 4) 240 [.ref y] (mdW h y M, n, w, g) = some (.inl (some (.int (iI (2 * (pA m F T S D lp).1 : Nat)))), (mdW h y (roM (plM M (pA m F T S D lp).1 Z) C), n', w', g)) := by
  obtain ⟨Z, hZ, p1⟩ := r_renderA (d := d) (h := h) (r := (n, w, g)) (y := y) hR
  obtain ⟨b1, b2⟩ := pA_n hR
  generalize pA m F T S D lp = P at *
  have hro : plM M P.1 Z = roM (plM M P.1 Z) (rwE P 0 A) := congrArg (fun z => (((M.1.1, M.1.2.1, M.1.2.2.1, M.1.2.2.2.1, M.1.2.2.2.2.1, iI P.1, M.1.2.2.2.2.2.2), M.2.1, M.2.2.1, M.2.2.2.1, M.2.2.2.2.1, M.2.2.2.2.2.1, M.2.2.2.2.2.2.1, Z, z) : Md)) hA
  obtain ⟨l2', p2⟩ := ev_7 (d := d + 2) (h := h) (r := (n, w, g)) (y := y) (M := M) (A := A) b2 b1 hZ P.1 0 (by omega) none
  rw [show ((0 : Nat) : Int) = 0 from rfl] at p2
  obtain ⟨n', w', C, c1, c2, c3, c4, p3⟩ := s_sortJ (d := d + 3) (h := mdW h y (plM M P.1 Z)) (g := g) (n0 := n) (w0 := w) (p := y + 530) (N := 960) (n := 2 * P.1) (A := rwE P P.1 A) (by omega) (by omega) (by omega) (by omega) (rwE_bd b2 hB P.1 (Nat.le_refl _))
  rw [lw_ro, lw_ro] at p3
  refine ⟨Z, n', w', C, hZ, c1, by omega, c3, c4, ?_⟩
  have m0 := md_0 (h := h) (y := y) (M := M)
  have m1 : ∀ C, mdW h y (roM (plM M P.1 Z) C) y = _ := fun C => md_0 (h := h) (y := y) (M := roM (plM M P.1 Z) C)
  have p0 : ∀ C, (roM (plM M P.1 Z) C).1.2.2.2.2.2.1 = iI P.1 := fun C => rfl
  have e1 : 2 * (P.1 : Int) = ((2 * P.1 : Nat) : Int) := by omega
  rw [e240]
  simp (disch := omega) only [r240_0, r240_1, r240_2, r240_5, r240_6, m0, p1, kl_n, kl_i, kl_r, kl_z, kl_l, kl_d, catS_0, catS_c, cat_i, cat_l, cat_d, cat_r, cat_n, kC_r, kC_x, Option.bind_some, Option.toList_some, Option.toList_none, List.cons_append, List.nil_append, gB0, gB1, gB2, gB3, gB4, rvB, nI_iI, i0, i1, l0_, wr_s, aup_s, and_true, true_and, and_self, eq_self, if_true, if_false, Nat.zero_le, Nat.reduceAdd, Nat.reduceLeDiff, gN_I, gN_L, gN_P, bI_0, bI_ok, z0, z1, Bool.true_eq, Bool.false_eq_true, not_true_eq_false, not_false_eq_true]
  rw [hro]
  change L (d + 2 + 1) 240 7 _ [] _ = _
  rw [p2]
  simp (disch := omega) only [r240_124, r240_125, r240_128, r240_129, r240_130, r240_131, r240_134, r240_135, r240_138, r240_139, r240_140, r240_143, r240_144, m1, mg12, mg13, p0, iI_mul, e1, p3, kl_n, kl_i, kl_r, kl_z, kl_l, kl_d, catS_0, catS_c, cat_i, cat_l, cat_d, cat_r, cat_n, kC_r, kC_x, Option.bind_some, Option.toList_some, Option.toList_none, List.cons_append, List.nil_append, gB0, gB1, gB2, gB3, gB4, rvB, nI_iI, i0, i1, l0_, wr_s, aup_s, and_true, true_and, and_self, eq_self, if_true, if_false, Nat.zero_le, Nat.reduceAdd, Nat.reduceLeDiff, gN_I, gN_L, gN_P, bI_0, bI_ok, z0, z1, Bool.true_eq, Bool.false_eq_true, not_true_eq_false, not_false_eq_true]
  rfl
end
