/-! ===== the reference renders ===== -/
/-- plays: how many, and each: its start, its length, its code -/
abbrev PV : Type := Nat × (Nat → Nat × Nat × Nat)
def pvA (P : PV) (v : Nat × Nat × Nat) : PV := (P.1 + 1, fun i => if i = P.1 then v else P.2 i)
def ply (S D : Nat → Int) (c : Nat) (l : Int) (q : Nat) (P : PV) : PV := if 0 ≤ (cP c : Int) + S (cT c) ∧ (cP c : Int) + S (cT c) ≤ 127 then pvA P ((max 0 ((cS c : Int) + l + D (cT c))).toNat, min q (cL c), wpC c ((cP c : Int) + S (cT c)).toNat) else P
def plyL (S D : Nat → Int) (c a b : Nat) : Nat → PV → PV
  | 0, P => P
  | j + 1, P => ply S D c ((j : Int) * ((b : Int) - a)) (b - cS c) (plyL S D c a b j P)
def plyN (S D : Nat → Int) (c : Nat) (lp : LPv) (P : PV) : PV :=
  if 0 < lp.2.2 ∧ lp.1 ≤ cS c ∧ cS c < lp.2.1 then plyL S D c lp.1 lp.2.1 lp.2.2 P
  else ply S D c (if 0 < lp.2.2 ∧ lp.2.1 ≤ cS c then ((lp.2.2 : Int) - 1) * ((lp.2.1 : Int) - lp.1) else 0) 960 P
def plyT (S D : Nat → Int) (q : Nat → Bool) (F : Nat → Nat) (lp : LPv) : Nat → PV → PV
  | 0, P => P
  | k + 1, P => if q (cT (F k)) = true then plyN S D (F k) lp (plyT S D q F lp k P) else plyT S D q F lp k P
theorem ply_n {S D : Nat → Int} {c q : Nat} {l : Int} {P : PV} : (ply S D c l q P).1 ≤ P.1 + 1 := by
  unfold ply
  split
  · exact Nat.le_refl _
  · exact Nat.le_succ _
theorem plyL_n {S D : Nat → Int} {c a b : Nat} {P : PV} : ∀ j, (plyL S D c a b j P).1 ≤ P.1 + j
  | 0 => Nat.le_refl _
  | j + 1 => Nat.le_trans ply_n (by have := plyL_n (S := S) (D := D) (c := c) (a := a) (b := b) (P := P) j; omega)
theorem plyN_n {S D : Nat → Int} {c : Nat} {lp : LPv} {P : PV} (h : lp.2.2 ≤ 8) : (plyN S D c lp P).1 ≤ P.1 + 8 := by
  unfold plyN
  split
  · exact Nat.le_trans (plyL_n _) (by omega)
  · exact Nat.le_trans ply_n (by omega)
theorem plyT_n {S D : Nat → Int} {q : Nat → Bool} {F : Nat → Nat} {lp : LPv} {P : PV} (h : lp.2.2 ≤ 8) : ∀ k, (plyT S D q F lp k P).1 ≤ P.1 + 8 * k
  | 0 => Nat.le_refl _
  | k + 1 => by
    have := plyT_n (S := S) (D := D) (q := q) (F := F) (P := P) h k
    unfold plyT
    split
    · exact Nat.le_trans (plyN_n h) (by omega)
    · omega
/-- the reference's plays: how many, and the rows -/
def plM (M : Md) (np : Nat) (Z : Nat → Nat → Int32) : Md := ((M.1.1, M.1.2.1, M.1.2.2.1, M.1.2.2.2.1, M.1.2.2.2.2.1, iI np, M.1.2.2.2.2.2.2), M.2.1, M.2.2.1, M.2.2.2.1, M.2.2.2.2.1, M.2.2.2.2.2.1, M.2.2.2.2.2.2.1, Z, M.2.2.2.2.2.2.2.2)
def rwI (R : Nat → Int32) (v : Nat × Nat × Nat) : Prop := R 0 = iI v.1 ∧ R 1 = iI v.2.1 ∧ R 2 = iI (cT v.2.2) ∧ R 3 = iI (cP v.2.2) ∧ R 4 = iI (cF v.2.2)
def rwA (P : PV) (Z : Nat → Nat → Int32) : Prop := ∀ j, j < P.1 → rwI (Z j) (P.2 j)
theorem rwA_A {P : PV} {Z : Nat → Nat → Int32} {v : Nat × Nat × Nat} {R : Nat → Int32} (h : rwA P Z) (hr : rwI R v) : rwA (pvA P v) (fun i => if i = P.1 then R else Z i) := by
  intro j hj
  have hj2 : j < P.1 + 1 := hj
  show rwI (if j = P.1 then R else Z j) (if j = P.1 then v else P.2 j)
  by_cases e : j = P.1
  · rw [if_pos e, if_pos e]
    exact hr
  · rw [if_neg e, if_neg e]
    exact h j (by omega)
section
variable {d : Nat} {h : aHf} {r : Nat × Nat × Nat × Nat} {y : Nat} {M : Md} {m : Nat} {F : Nat → Nat} {X : Nat → Int32} {T : Nat → Nat} {S D : Nat → Int}
theorem r_ply {i : Nat} {l : Int} {q : Nat} {P : PV} {Z : Nat → Nat → Int32} (hA : M.2.1 = nB m F X) (hm : m ≤ 60) (hi : i < m) (hF : ∀ i, cOk (F i)) (hT : cT (F i) < 6) (hR : trA M.2.1 T S D) (hS : -24 ≤ S (cT (F i)) ∧ S (cT (F i)) ≤ 24) (hD : -48 ≤ D (cT (F i)) ∧ D (cT (F i)) ≤ 48)
    (hn : P.1 < 480) (hl : 0 ≤ l ∧ l ≤ 100000) (hq : q ≤ 10000) (hZ : rwA P Z) :
    ∃ Z', rwA (ply S D (F i) l q P) Z' ∧ aE (d + 2) 238 [.ref y, .int (iI i), .int (iI l), .int (iI q)] (mdW h y (plM M P.1 Z), r) = some (.inl none, (mdW h y (plM M (ply S D (F i) l q P).1 Z'), r)) := by
  unfold ply
  by_cases c : 0 ≤ (cP (F i) : Int) + S (cT (F i)) ∧ (cP (F i) : Int) + S (cT (F i)) ≤ 127
  · rw [if_pos c]
    have k := r_play (d := d) (h := h) (r := r) (y := y) (M := plM M P.1 Z) (m := m) (F := F) (X := X) (T := T) (S := S) (D := D) (i := i) (np := P.1) (l := l) (q := q) hA hm hi hF hT hR hS hD rfl hn hl (by omega) c
    have a2 := cS_lt (F i)
    have a3 := cL_lt (F i)
    have a4 := cP_lt (F i)
    have a5 := cF_lt (F i)
    refine ⟨_, rwA_A hZ ?_, k⟩
    have e1 : max 0 ((cS (F i) : Int) + l + D (cT (F i))) = ((max 0 ((cS (F i) : Int) + l + D (cT (F i)))).toNat : Int) := by omega
    have e2 : min (q : Int) (cL (F i)) = ((min q (cL (F i)) : Nat) : Int) := by omega
    have e3 : (cP (F i) : Int) + S (cT (F i)) = ((((cP (F i) : Int) + S (cT (F i))).toNat : Nat) : Int) := by omega
    refine ⟨congrArg iI e1, congrArg iI e2, ?_, ?_, ?_⟩
    · show iI _ = iI (cT (wpC _ _) : Nat)
      unfold wpC
      rw [cT_O a2 (by omega) a3 a5]
    · show iI _ = iI (cP (wpC _ _) : Nat)
      unfold wpC
      rw [cP_O (by omega) a3 a5]
      exact congrArg iI e3
    · show iI _ = iI (cF (wpC _ _) : Nat)
      unfold wpC
      rw [cF_O a5]
  · rw [if_neg c]
    exact ⟨Z, hZ, r_play_0 (d := d) (h := h) (r := r) (y := y) (M := plM M P.1 Z) (T := T) (S := S) (D := D) hA hm hi hF hT hR hS c⟩
theorem rn_94 {i a b z : Nat} {o : Int32} {P : PV} (hA : M.2.1 = nB m F X) (hm : m ≤ 60) (hi : i < m) (hF : ∀ i, cOk (F i)) (hT : cT (F i) < 6) (hR : trA M.2.1 T S D) (hS : -24 ≤ S (cT (F i)) ∧ S (cT (F i)) ≤ 24) (hD : -48 ≤ D (cT (F i)) ∧ D (cT (F i)) ≤ 48)
    (hn : P.1 ≤ 472) (hz : z ≤ 8) (hab : a < b ∧ b ≤ 9600) (hs : a ≤ cS (F i) ∧ cS (F i) < b) : ∀ s j : Nat, j + s = z → ∀ Z, rwA (plyL S D (F i) a b j P) Z →
    ∃ Z', rwA (plyL S D (F i) a b z P) Z' ∧ L (d + 2) 239 94 [some (.ref y), some (.int o), some (.int (iI a)), some (.int (iI b)), some (.int (iI z)), some (.int (iI i)), some (.int (iI (cS (F i)))), some (.int (iI j))] [] (mdW h y (plM M (plyL S D (F i) a b j P).1 Z), r) = L (d + 2) 239 158 [some (.ref y), some (.int o), some (.int (iI a)), some (.int (iI b)), some (.int (iI z)), some (.int (iI i)), some (.int (iI (cS (F i)))), some (.int (iI z))] [] (mdW h y (plM M (plyL S D (F i) a b z P).1 Z'), r) := by
  intro s
  induction s with
  | zero =>
    intro j hj Z hZ
    obtain rfl : j = z := by omega
    refine ⟨Z, hZ, ?_⟩
    rw [r239_94]
    simp (disch := omega) only [r239_96, r239_98, r239_101, r239_102, r239_104, r239_106, r239_107, r239_108, r239_109, r239_110, r239_111, r239_113, r239_114, r239_117, r239_120, r239_123, iI_le, Int.le_refl, kl_n, kl_i, kl_r, kl_z, kl_l, kl_d, catS_0, catS_c, cat_i, cat_l, cat_d, cat_r, cat_n, kC_r, kC_x, Option.bind_some, Option.toList_some, Option.toList_none, List.cons_append, List.nil_append, gB0, gB1, gB2, gB3, gB4, rvB, nI_iI, i0, i1, l0_, wr_s, aup_s, and_true, true_and, and_self, eq_self, if_true, if_false, Nat.zero_le, Nat.reduceAdd, Nat.reduceLeDiff, gN_I, gN_L, gN_P, bI_0, bI_ok, z0, z1, Bool.true_eq, Bool.false_eq_true, not_true_eq_false, not_false_eq_true]
  | succ s ih =>
    intro j hj Z hZ
    have b1 : 0 ≤ (j : Int) * ((b : Int) - a) := Int.mul_nonneg (by omega) (by omega)
    have b2 := rnd_b (a := a) (b := b) (show j ≤ 8 by omega) (by omega) (by omega)
    have b3 := plyL_n (S := S) (D := D) (c := F i) (a := a) (b := b) (P := P) j
    obtain ⟨Z1, z1, p1⟩ := r_ply (d := d) (h := h) (r := r) (y := y) (M := M) (T := T) (S := S) (D := D) (i := i) (l := (j : Int) * ((b : Int) - a)) (q := b - cS (F i)) (P := plyL S D (F i) a b j P) (Z := Z) hA hm hi hF hT hR hS hD (by omega) (by omega) (by omega) hZ
    obtain ⟨Z2, z2, p2⟩ := ih (j + 1) (by omega) Z1 z1
    refine ⟨Z2, z2, ?_⟩
    rw [← p2]
    have c1 : ¬ (z : Int) ≤ j := by omega
    have e1 : (j : Int) + 1 = ((j + 1 : Nat) : Int) := by omega
    have e2 : (b : Int) - (cS (F i) : Int) = ((b - cS (F i) : Nat) : Int) := by omega
    have m0 := md_0 (h := h) (y := y) (M := plM M (plyL S D (F i) a b j P).1 Z)
    rw [r239_94]
    simp (disch := omega) only [r239_96, r239_98, r239_101, r239_102, r239_104, r239_106, r239_107, r239_108, r239_109, r239_110, r239_111, r239_113, r239_114, r239_117, r239_120, iI_le, c1, m0, iI_sub, iI_mul, iI_add, e2, p1, e1, kl_n, kl_i, kl_r, kl_z, kl_l, kl_d, catS_0, catS_c, cat_i, cat_l, cat_d, cat_r, cat_n, kC_r, kC_x, Option.bind_some, Option.toList_some, Option.toList_none, List.cons_append, List.nil_append, gB0, gB1, gB2, gB3, gB4, rvB, nI_iI, i0, i1, l0_, wr_s, aup_s, and_true, true_and, and_self, eq_self, if_true, if_false, Nat.zero_le, Nat.reduceAdd, Nat.reduceLeDiff, gN_I, gN_L, gN_P, bI_0, bI_ok, z0, z1, Bool.true_eq, Bool.false_eq_true, not_true_eq_false, not_false_eq_true]
    rfl
theorem rn_36 {a b z : Nat} {o : Int32} {q : Nat → Bool} (hA : M.2.1 = nB m F X) (hm : m ≤ 60) (hF : ∀ i, cOk (F i)) (hT : ∀ i, i < m → cT (F i) < 6) (hR : trA M.2.1 T S D) (hS : ∀ t, -24 ≤ S t ∧ S t ≤ 24) (hD : ∀ t, -48 ≤ D t ∧ D t ≤ 48)
    (hz : z ≤ 8) (hab : 0 < z → a < b) (hb : b ≤ 9600) (ha : a ≤ 9600) (hq : ∀ i np Z, i < m → aE (d + 2) 237 [.ref y, .int (iI (cT (F i))), .int o] (mdW h y (plM M np Z), r) = some (.inl (some (.int (bI (q (cT (F i)) = true)))), (mdW h y (plM M np Z), r))) : ∀ s i : Nat, i + s = m → ∀ Z l6 l7, rwA (plyT S D q F (a, b, z) i (0, fun _ => (0, 0, 0))) Z →
    ∃ Z', rwA (plyT S D q F (a, b, z) m (0, fun _ => (0, 0, 0))) Z' ∧ L (d + 2) 239 36 [some (.ref y), some (.int o), some (.int (iI a)), some (.int (iI b)), some (.int (iI z)), some (.int (iI i)), klL l6, klL l7] [] (mdW h y (plM M (plyT S D q F (a, b, z) i (0, fun _ => (0, 0, 0))).1 Z), r) = some (.inl none, (mdW h y (plM M (plyT S D q F (a, b, z) m (0, fun _ => (0, 0, 0))).1 Z'), r)) := by
  have g0 : gI (some (aI .int 385 (nB m F X))) (iI 0) = some (iI m) := gI_0 (by omega)
  intro s
  induction s with
  | zero =>
    intro i hi Z l6 l7 hZ
    obtain rfl : i = m := by omega
    refine ⟨Z, hZ, ?_⟩
    have m0 := md_0 (h := h) (y := y) (M := plM M (plyT S D q F (a, b, z) i (0, fun _ => (0, 0, 0))).1 Z)
    have m1 : mdW h y (plM M (plyT S D q F (a, b, z) i (0, fun _ => (0, 0, 0))).1 Z) (y + 1) = some (aI .int 385 (nB i F X)) := by rw [md_1]; exact congrArg (fun z => some (aI .int 385 z)) hA
    rw [r239_36]
    simp (disch := omega) only [r239_38, r239_39, r239_42, r239_43, r239_44, r239_164, m0, m1, g0, iI_le, Int.le_refl, kl_n, kl_i, kl_r, kl_z, kl_l, kl_d, catS_0, catS_c, cat_i, cat_l, cat_d, cat_r, cat_n, kC_r, kC_x, Option.bind_some, Option.toList_some, Option.toList_none, List.cons_append, List.nil_append, gB0, gB1, gB2, gB3, gB4, rvB, nI_iI, i0, i1, l0_, wr_s, aup_s, and_true, true_and, and_self, eq_self, if_true, if_false, Nat.zero_le, Nat.reduceAdd, Nat.reduceLeDiff, gN_I, gN_L, gN_P, bI_0, bI_ok, z0, z1, Bool.true_eq, Bool.false_eq_true, not_true_eq_false, not_false_eq_true]
  | succ s ih =>
    intro i hi Z l6 l7 hZ
    have him : i < m := by omega
    have a2 := cS_lt (F i)
    have c1 : ¬ (m : Int) ≤ i := by omega
    have e1 : (i : Int) + 1 = ((i + 1 : Nat) : Int) := by omega
    have b8 := plyT_n (S := S) (D := D) (q := q) (F := F) (lp := (a, b, z)) (P := (0, fun _ => (0, 0, 0))) hz i
    have b9 : (plyT S D q F (a, b, z) i (0, fun _ => (0, 0, 0))).1 ≤ 472 := by
      have : (plyT S D q F (a, b, z) i (0, fun _ => (0, 0, 0))).1 ≤ 0 + 8 * i := b8
      omega
    clear b8
    have eqT : plyT S D q F (a, b, z) (i + 1) (0, fun _ => (0, 0, 0)) = if q (cT (F i)) = true then plyN S D (F i) (a, b, z) (plyT S D q F (a, b, z) i (0, fun _ => (0, 0, 0))) else plyT S D q F (a, b, z) i (0, fun _ => (0, 0, 0)) := rfl
    generalize plyT S D q F (a, b, z) i (0, fun _ => (0, 0, 0)) = P at *
    have m0 := md_0 (h := h) (y := y) (M := plM M P.1 Z)
    have m1 : mdW h y (plM M P.1 Z) (y + 1) = some (aI .int 385 (nB m F X)) := by rw [md_1]; exact congrArg (fun z => some (aI .int 385 z)) hA
    have k0 := r_0 (d := d + 1) (h := h) (r := r) (y := y) (M := plM M P.1 Z) (F := F) (X := X) hA hm him
    have k1 := r_1 (d := d + 1) (h := h) (r := r) (y := y) (M := plM M P.1 Z) (F := F) (X := X) hA hm him
    have kq := hq i P.1 Z him
    by_cases cq : q (cT (F i)) = true
    · have hT' := hT i him
      have hS' := hS (cT (F i))
      have hD' := hD (cT (F i))
      by_cases c2 : 0 < z ∧ a ≤ cS (F i) ∧ cS (F i) < b
      · have c3 : ¬ (z : Int) ≤ 0 := by omega
        have c4 : (a : Int) ≤ (cS (F i) : Int) ∧ (cS (F i) : Int) ≤ (b : Int) - 1 := by omega
        obtain ⟨Z1, z1, p1⟩ := rn_94 (d := d) (h := h) (r := r) (y := y) (M := M) (T := T) (S := S) (D := D) (o := o) (P := P) hA hm him hF hT' hR hS' hD' b9 hz ⟨hab c2.1, hb⟩ c2.2 z 0 (by omega) Z hZ
        rw [show ((0 : Nat) : Int) = 0 from rfl] at p1
        have e3 : plyT S D q F (a, b, z) (i + 1) (0, fun _ => (0, 0, 0)) = plyL S D (F i) a b z P := by
          rw [eqT, if_pos cq]
          exact if_pos c2
        rw [← e3] at z1
        obtain ⟨Z2, z2, p2⟩ := ih (i + 1) (by omega) Z1 (some (.int (iI (cS (F i))))) (some (.int (iI z))) z1
        refine ⟨Z2, z2, ?_⟩
        rw [← p2, e3]
        change L (d + 2) 239 94 _ [] (mdW h y (plM M P.1 Z), r) = _ at p1
        rw [r239_36]
        simp (disch := omega) only [r239_38, r239_39, r239_42, r239_43, r239_44, r239_47, r239_48, r239_49, r239_51, r239_52, r239_55, r239_56, r239_59, r239_62, r239_65, r239_66, r239_68, r239_69, r239_72, r239_74, r239_76, r239_79, r239_81, r239_82, r239_83, r239_84, r239_85, r239_88, r239_91, r239_92, m0, m1, g0, iI_le, c1, k0, kq, cq, k1, c3, iI_sub, s_mis, c4, p1, kl_n, kl_i, kl_r, kl_z, kl_l, kl_d, catS_0, catS_c, cat_i, cat_l, cat_d, cat_r, cat_n, kC_r, kC_x, Option.bind_some, Option.toList_some, Option.toList_none, List.cons_append, List.nil_append, gB0, gB1, gB2, gB3, gB4, rvB, nI_iI, i0, i1, l0_, wr_s, aup_s, and_true, true_and, and_self, eq_self, if_true, if_false, Nat.zero_le, Nat.reduceAdd, Nat.reduceLeDiff, gN_I, gN_L, gN_P, bI_0, bI_ok, z0, z1, Bool.true_eq, Bool.false_eq_true, not_true_eq_false, not_false_eq_true]
        simp (disch := omega) only [r239_158, r239_161, iI_add, e1, kl_n, kl_i, kl_r, kl_z, kl_l, kl_d, catS_0, catS_c, cat_i, cat_l, cat_d, cat_r, cat_n, kC_r, kC_x, Option.bind_some, Option.toList_some, Option.toList_none, List.cons_append, List.nil_append, gB0, gB1, gB2, gB3, gB4, rvB, nI_iI, i0, i1, l0_, wr_s, aup_s, and_true, true_and, and_self, eq_self, if_true, if_false, Nat.zero_le, Nat.reduceAdd, Nat.reduceLeDiff, gN_I, gN_L, gN_P, bI_0, bI_ok, z0, z1, Bool.true_eq, Bool.false_eq_true, not_true_eq_false, not_false_eq_true]
      · obtain ⟨l, hl⟩ : ∃ l : Int, l = if 0 < z ∧ b ≤ cS (F i) then ((z : Int) - 1) * ((b : Int) - a) else 0 := ⟨_, rfl⟩
        have bl : 0 ≤ l ∧ l ≤ 100000 := by
          rw [hl]
          split
          · rename_i q1
            have e0 : (z : Int) - 1 = ((z - 1 : Nat) : Int) := by omega
            rw [e0]
            have b2 := rnd_b (a := a) (b := b) (show z - 1 ≤ 8 by omega) (by omega) (by omega)
            have b1 : 0 ≤ ((z - 1 : Nat) : Int) * ((b : Int) - a) := Int.mul_nonneg (by omega) (by have := hab q1.1; omega)
            generalize ((z - 1 : Nat) : Int) * ((b : Int) - a) = zz at *
            omega
          · omega
        obtain ⟨Z1, z1, p1⟩ := r_ply (d := d) (h := h) (r := r) (y := y) (M := M) (T := T) (S := S) (D := D) (i := i) (l := l) (q := 960) (P := P) (Z := Z) hA hm him hF hT' hR hS' hD' (by omega) bl (by omega) hZ
        rw [show ((960 : Nat) : Int) = 960 from rfl] at p1
        have e3 : plyT S D q F (a, b, z) (i + 1) (0, fun _ => (0, 0, 0)) = ply S D (F i) l 960 P := by
          rw [eqT, if_pos cq, hl]
          exact if_neg c2
        rw [← e3] at z1
        have st : ∀ l7, L (d + 2) 239 126 [some (.ref y), some (.int o), some (.int (iI a)), some (.int (iI b)), some (.int (iI z)), some (.int (iI i)), some (.int (iI (cS (F i)))), l7] [] (mdW h y (plM M P.1 Z), r) = L (d + 2) 239 36 [some (.ref y), some (.int o), some (.int (iI a)), some (.int (iI b)), some (.int (iI z)), some (.int (iI (i + 1 : Nat))), some (.int (iI (cS (F i)))), l7] [] (mdW h y (plM M (ply S D (F i) l 960 P).1 Z1), r) := by
          intro l7
          by_cases c5 : 0 < z
          · have c3 : ¬ (z : Int) ≤ 0 := by omega
            by_cases c6 : b ≤ cS (F i)
            · have c7 : ¬ (cS (F i) : Int) < b := by omega
              rw [if_pos ⟨c5, c6⟩] at hl
              rw [hl] at p1
              simp (disch := omega) only [r239_126, r239_127, r239_129, r239_131, r239_134, r239_136, r239_137, r239_140, r239_142, r239_143, r239_144, r239_145, r239_146, r239_147, r239_148, iI_le, c3, iI_lt, c7, iI_sub, iI_mul, kl_n, kl_i, kl_r, kl_z, kl_l, kl_d, catS_0, catS_c, cat_i, cat_l, cat_d, cat_r, cat_n, kC_r, kC_x, Option.bind_some, Option.toList_some, Option.toList_none, List.cons_append, List.nil_append, gB0, gB1, gB2, gB3, gB4, rvB, nI_iI, i0, i1, l0_, wr_s, aup_s, and_true, true_and, and_self, eq_self, if_true, if_false, Nat.zero_le, Nat.reduceAdd, Nat.reduceLeDiff, gN_I, gN_L, gN_P, bI_0, bI_ok, z0, z1, Bool.true_eq, Bool.false_eq_true, not_true_eq_false, not_false_eq_true]
              simp (disch := omega) only [r239_152, r239_155, r239_158, r239_161, m0, p1, iI_add, e1, hl, kl_n, kl_i, kl_r, kl_z, kl_l, kl_d, catS_0, catS_c, cat_i, cat_l, cat_d, cat_r, cat_n, kC_r, kC_x, Option.bind_some, Option.toList_some, Option.toList_none, List.cons_append, List.nil_append, gB0, gB1, gB2, gB3, gB4, rvB, nI_iI, i0, i1, l0_, wr_s, aup_s, and_true, true_and, and_self, eq_self, if_true, if_false, Nat.zero_le, Nat.reduceAdd, Nat.reduceLeDiff, gN_I, gN_L, gN_P, bI_0, bI_ok, z0, z1, Bool.true_eq, Bool.false_eq_true, not_true_eq_false, not_false_eq_true]
            · have c7 : (cS (F i) : Int) < b := by omega
              rw [if_neg (fun x => c6 x.2)] at hl
              rw [hl] at p1
              simp (disch := omega) only [r239_126, r239_127, r239_129, r239_131, r239_134, r239_136, r239_137, iI_le, c3, iI_lt, c7, kl_n, kl_i, kl_r, kl_z, kl_l, kl_d, catS_0, catS_c, cat_i, cat_l, cat_d, cat_r, cat_n, kC_r, kC_x, Option.bind_some, Option.toList_some, Option.toList_none, List.cons_append, List.nil_append, gB0, gB1, gB2, gB3, gB4, rvB, nI_iI, i0, i1, l0_, wr_s, aup_s, and_true, true_and, and_self, eq_self, if_true, if_false, Nat.zero_le, Nat.reduceAdd, Nat.reduceLeDiff, gN_I, gN_L, gN_P, bI_0, bI_ok, z0, z1, Bool.true_eq, Bool.false_eq_true, not_true_eq_false, not_false_eq_true]
              simp (disch := omega) only [r239_151, r239_152, r239_155, r239_158, r239_161, m0, p1, iI_add, e1, hl, kl_n, kl_i, kl_r, kl_z, kl_l, kl_d, catS_0, catS_c, cat_i, cat_l, cat_d, cat_r, cat_n, kC_r, kC_x, Option.bind_some, Option.toList_some, Option.toList_none, List.cons_append, List.nil_append, gB0, gB1, gB2, gB3, gB4, rvB, nI_iI, i0, i1, l0_, wr_s, aup_s, and_true, true_and, and_self, eq_self, if_true, if_false, Nat.zero_le, Nat.reduceAdd, Nat.reduceLeDiff, gN_I, gN_L, gN_P, bI_0, bI_ok, z0, z1, Bool.true_eq, Bool.false_eq_true, not_true_eq_false, not_false_eq_true]
          · have c3 : (z : Int) ≤ 0 := by omega
            rw [if_neg (fun x => c5 x.1)] at hl
            rw [hl] at p1
            simp (disch := omega) only [r239_126, r239_127, r239_129, r239_131, iI_le, c3, kl_n, kl_i, kl_r, kl_z, kl_l, kl_d, catS_0, catS_c, cat_i, cat_l, cat_d, cat_r, cat_n, kC_r, kC_x, Option.bind_some, Option.toList_some, Option.toList_none, List.cons_append, List.nil_append, gB0, gB1, gB2, gB3, gB4, rvB, nI_iI, i0, i1, l0_, wr_s, aup_s, and_true, true_and, and_self, eq_self, if_true, if_false, Nat.zero_le, Nat.reduceAdd, Nat.reduceLeDiff, gN_I, gN_L, gN_P, bI_0, bI_ok, z0, z1, Bool.true_eq, Bool.false_eq_true, not_true_eq_false, not_false_eq_true]
            simp (disch := omega) only [r239_151, r239_152, r239_155, r239_158, r239_161, m0, p1, iI_add, e1, hl, kl_n, kl_i, kl_r, kl_z, kl_l, kl_d, catS_0, catS_c, cat_i, cat_l, cat_d, cat_r, cat_n, kC_r, kC_x, Option.bind_some, Option.toList_some, Option.toList_none, List.cons_append, List.nil_append, gB0, gB1, gB2, gB3, gB4, rvB, nI_iI, i0, i1, l0_, wr_s, aup_s, and_true, true_and, and_self, eq_self, if_true, if_false, Nat.zero_le, Nat.reduceAdd, Nat.reduceLeDiff, gN_I, gN_L, gN_P, bI_0, bI_ok, z0, z1, Bool.true_eq, Bool.false_eq_true, not_true_eq_false, not_false_eq_true]
        obtain ⟨Z2, z2, p2⟩ := ih (i + 1) (by omega) Z1 (some (.int (iI (cS (F i))))) l7 z1
        refine ⟨Z2, z2, ?_⟩
        rw [← p2, e3]
        have st' := st (klL l7)
        rw [r239_36]
        by_cases c5 : 0 < z
        · have c3 : ¬ (z : Int) ≤ 0 := by omega
          have c4 : ¬ ((a : Int) ≤ (cS (F i) : Int) ∧ (cS (F i) : Int) ≤ (b : Int) - 1) := by omega
          have c4F := eq_false c4
          simp (disch := omega) only [r239_38, r239_39, r239_42, r239_43, r239_44, r239_47, r239_48, r239_49, r239_51, r239_52, r239_55, r239_56, r239_59, r239_62, r239_65, r239_66, r239_68, r239_69, r239_72, r239_74, r239_76, r239_79, r239_81, r239_82, r239_83, r239_84, r239_85, r239_88, r239_91, r239_92, m0, m1, g0, iI_le, c1, k0, kq, cq, k1, c3, iI_sub, s_mis, c4F, st', kl_n, kl_i, kl_r, kl_z, kl_l, kl_d, catS_0, catS_c, cat_i, cat_l, cat_d, cat_r, cat_n, kC_r, kC_x, Option.bind_some, Option.toList_some, Option.toList_none, List.cons_append, List.nil_append, gB0, gB1, gB2, gB3, gB4, rvB, nI_iI, i0, i1, l0_, wr_s, aup_s, and_true, true_and, and_self, eq_self, if_true, if_false, Nat.zero_le, Nat.reduceAdd, Nat.reduceLeDiff, gN_I, gN_L, gN_P, bI_0, bI_ok, z0, z1, Bool.true_eq, Bool.false_eq_true, not_true_eq_false, not_false_eq_true]
        · have c3 : (z : Int) ≤ 0 := by omega
          simp (disch := omega) only [r239_38, r239_39, r239_42, r239_43, r239_44, r239_47, r239_48, r239_49, r239_51, r239_52, r239_55, r239_56, r239_59, r239_62, r239_65, r239_66, r239_68, r239_69, r239_72, r239_74, r239_76, r239_79, r239_81, r239_82, r239_83, r239_84, r239_85, r239_88, r239_91, r239_92, m0, m1, g0, iI_le, c1, k0, kq, cq, k1, c3, st', kl_n, kl_i, kl_r, kl_z, kl_l, kl_d, catS_0, catS_c, cat_i, cat_l, cat_d, cat_r, cat_n, kC_r, kC_x, Option.bind_some, Option.toList_some, Option.toList_none, List.cons_append, List.nil_append, gB0, gB1, gB2, gB3, gB4, rvB, nI_iI, i0, i1, l0_, wr_s, aup_s, and_true, true_and, and_self, eq_self, if_true, if_false, Nat.zero_le, Nat.reduceAdd, Nat.reduceLeDiff, gN_I, gN_L, gN_P, bI_0, bI_ok, z0, z1, Bool.true_eq, Bool.false_eq_true, not_true_eq_false, not_false_eq_true]
    · have e3 : plyT S D q F (a, b, z) (i + 1) (0, fun _ => (0, 0, 0)) = P := by
        rw [eqT, if_neg cq]
      obtain ⟨Z2, z2, p2⟩ := ih (i + 1) (by omega) Z l6 l7 (by rw [e3]; exact hZ)
      refine ⟨Z2, z2, ?_⟩
      rw [← p2, e3]
      rw [r239_36]
      simp (disch := omega) only [r239_38, r239_39, r239_42, r239_43, r239_44, r239_47, r239_48, r239_49, r239_51, r239_52, r239_55, r239_56, r239_59, r239_62, r239_158, r239_161, m0, m1, g0, iI_le, c1, k0, kq, cq, iI_add, e1, kl_n, kl_i, kl_r, kl_z, kl_l, kl_d, catS_0, catS_c, cat_i, cat_l, cat_d, cat_r, cat_n, kC_r, kC_x, Option.bind_some, Option.toList_some, Option.toList_none, List.cons_append, List.nil_append, gB0, gB1, gB2, gB3, gB4, rvB, nI_iI, i0, i1, l0_, wr_s, aup_s, and_true, true_and, and_self, eq_self, if_true, if_false, Nat.zero_le, Nat.reduceAdd, Nat.reduceLeDiff, gN_I, gN_L, gN_P, bI_0, bI_ok, z0, z1, Bool.true_eq, Bool.false_eq_true, not_true_eq_false, not_false_eq_true]
theorem r_render {a b z : Nat} {o : Int32} {q : Nat → Bool} (hA : M.2.1 = nB m F X) (hm : m ≤ 60) (hF : ∀ i, cOk (F i)) (hT : ∀ i, i < m → cT (F i) < 6) (hR : trA M.2.1 T S D) (hS : ∀ t, -24 ≤ S t ∧ S t ≤ 24) (hD : ∀ t, -48 ≤ D t ∧ D t ≤ 48) (hL1 : M.2.1 382 = iI a) (hL2 : M.2.1 383 = iI b) (hL3 : M.2.1 384 = iI z)
    (hz : z ≤ 8) (hab : 0 < z → a < b) (hb : b ≤ 9600) (ha : a ≤ 9600) (hq : ∀ i np Z, i < m → aE (d + 2) 237 [.ref y, .int (iI (cT (F i))), .int o] (mdW h y (plM M np Z), r) = some (.inl (some (.int (bI (q (cT (F i)) = true)))), (mdW h y (plM M np Z), r))) :
    ∃ Z', rwA (plyT S D q F (a, b, z) m (0, fun _ => (0, 0, 0))) Z' ∧ aE (d + 3) 239 [.ref y, .int o] (mdW h y M, r) = some (.inl none, (mdW h y (plM M (plyT S D q F (a, b, z) m (0, fun _ => (0, 0, 0))).1 Z'), r)) := by
  obtain ⟨Z2, z2, p2⟩ := rn_36 (d := d) (h := h) (r := r) (y := y) (M := M) (T := T) (S := S) (D := D) hA hm hF hT hR hS hD hz hab hb ha hq m 0 (by omega) M.2.2.2.2.2.2.2.1 none none (fun j hj => absurd hj (Nat.not_lt_zero j))
  refine ⟨Z2, z2, ?_⟩
  have gi : ∀ j : Nat, j < 385 → gI (some (aI .int 385 M.2.1)) (iI (j : Int)) = some (M.2.1 j) := fun j hj => gI_N (by omega) (by omega)
  have h1 := gi 382 (by omega)
  have h2 := gi 383 (by omega)
  have h3 := gi 384 (by omega)
  rw [hL1, show ((382 : Nat) : Int) = 382 from rfl] at h1
  rw [hL2, show ((383 : Nat) : Int) = 383 from rfl] at h2
  rw [hL3, show ((384 : Nat) : Int) = 384 from rfl] at h3
  rw [e239]
  simp (disch := omega) only [r239_0, r239_1, r239_4, r239_7, r239_8, r239_9, r239_10, r239_13, r239_16, r239_17, r239_18, r239_19, r239_22, r239_25, r239_26, r239_28, r239_29, r239_30, md_0, md_1, h1, h2, h3, gB1, ms12, md_ob, kl_n, kl_i, kl_r, kl_z, kl_l, kl_d, catS_0, catS_c, cat_i, cat_l, cat_d, cat_r, cat_n, kC_r, kC_x, Option.bind_some, Option.toList_some, Option.toList_none, List.cons_append, List.nil_append, gB0, gB1, gB2, gB3, gB4, rvB, nI_iI, i0, i1, l0_, wr_s, aup_s, and_true, true_and, and_self, eq_self, if_true, if_false, Nat.zero_le, Nat.reduceAdd, Nat.reduceLeDiff, gN_I, gN_L, gN_P, bI_0, bI_ok, z0, z1, Bool.true_eq, Bool.false_eq_true, not_true_eq_false, not_false_eq_true]
  simp (disch := omega) only [r239_33, r239_34, kl_n, kl_i, kl_r, kl_z, kl_l, kl_d, catS_0, catS_c, cat_i, cat_l, cat_d, cat_r, cat_n, kC_r, kC_x, Option.bind_some, Option.toList_some, Option.toList_none, List.cons_append, List.nil_append, gB0, gB1, gB2, gB3, gB4, rvB, nI_iI, i0, i1, l0_, wr_s, aup_s, and_true, true_and, and_self, eq_self, if_true, if_false, Nat.zero_le, Nat.reduceAdd, Nat.reduceLeDiff, gN_I, gN_L, gN_P, bI_0, bI_ok, z0, z1, Bool.true_eq, Bool.false_eq_true, not_true_eq_false, not_false_eq_true]
  exact p2
end
