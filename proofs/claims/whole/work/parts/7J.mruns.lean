/-! ===== the library merges runs ===== -/
/-- the same in a stretch -/
theorem cn_seg {F H : Nat → Nat} {v a : Nat} : ∀ {b : Nat}, a ≤ b → (∀ i, a ≤ i → i < b → F i = H i) → cn F v b + cn H v a = cn F v a + cn H v b
  | 0, h, _ => by
    obtain rfl : a = 0 := by omega
    rfl
  | b + 1, h, he => by
    by_cases e : a = b + 1
    · rw [← e]
    · have ih := cn_seg (F := F) (H := H) (v := v) (a := a) (b := b) (by omega) (fun i h1 h2 => he i h1 (by omega))
      rw [cn_k, cn_k, he b (by omega) (by omega)]
      omega
/-- R holds from x up to z what A holds there, sorted -/
def mrR (A R : Nat → Nat) (x z : Nat) : Prop := sor R x z ∧ ∀ v, cn R v z + cn A v x = cn R v x + cn A v z
theorem mr_join {A A1 R1 R2 C D : Nat → Nat} {x y z : Nat} (hxy : x ≤ y ∧ y ≤ z) (h1 : mrR A R1 x y) (h2 : mrR A1 R2 y z) (hA : ∀ i, y ≤ i → i < z → A1 i = A i) (hC1 : ∀ i, x ≤ i → i < y → C i = R1 i) (hC2 : ∀ i, y ≤ i → i < z → C i = R2 i) (hs : sor D x z) (hD : ∀ v, cn D v z + cn C v x + cn C v y = cn D v x + cn C v y + cn C v z) : mrR A D x z := by
  refine ⟨hs, fun v => ?_⟩
  have a1 := h1.2 v
  have a2 := h2.2 v
  have a3 := cn_seg (v := v) hxy.2 hA
  have a4 := cn_seg (v := v) hxy.1 hC1
  have a5 := cn_seg (v := v) hxy.2 hC2
  have a6 := hD v
  omega
theorem MJ_bd {C S0 S : Nat → Nat} {a b c l q p : Nat} (h : MJ C S0 S a b c l q p) (hC : ∀ i, bd (C i)) (hS : ∀ i, bd (S0 i)) : ∀ i, bd (S i) := fun i => by
  by_cases e : i < a ∨ p ≤ i
  · rw [h.2.1 i e]
    exact hS i
  · -- what was merged is one of C's
    have g := h.1
    have c0 := h.2.2.2.2 (S i)
    have c1 := cn_in (F := S) (v := S i) (a := a) (b := p) rfl (by omega) (by omega)
    have c2 := cn_le_s (F := C) (v := S i) (a := a) (b := l) (by omega)
    have c3 := cn_le_s (F := C) (v := S i) (a := b) (b := q) (by omega)
    by_cases e2 : cn C (S i) a < cn C (S i) l
    · obtain ⟨j, _, _, e3⟩ := cn_ex e2 (by omega)
      rw [← e3]
      exact hC j
    · obtain ⟨j, _, _, e3⟩ := cn_ex (F := C) (v := S i) (a := b) (b := q) (by omega) (by omega)
      rw [← e3]
      exact hC j
section
variable {r : Nat × Nat × Nat × Nat} {h : aHf} {p q ro N Nb : Nat} {G : Nat → Nat}
theorem rn_g {A B : Nat → Nat} {j : Nat} (hne : p ≠ q ∧ ro ≠ p ∧ ro ≠ q) (hro : h ro = some (aI .int 127 (fun i => iI (G i)))) (hj : j < 127) : gI (lw (lw h p N A) q Nb B ro) (iI (j : Int)) = some (iI (G j)) := by
  rw [lw_o hne.2.2, lw_o hne.2.1, hro, gI_I (by omega) (by omega) (by omega), Int.toNat_natCast]
theorem mi_80 {d lo hi rm : Nat} {A B : Nat → Nat} {l0 l1 l2 l3 l4 l10 l11 l12 l13 l14 l15 l16 l17 : Option Value} (hne : p ≠ q ∧ ro ≠ p ∧ ro ≠ q) (hro : h ro = some (aI .int 127 (fun i => iI (G i)))) (hh : hi < 127) (hg : ∀ i, i ≤ hi → G i ≤ 2000) (hrm : rm < G hi) : ∀ s x : Nat, x + 2 + s = hi → ∃ y, x < y ∧ y < hi ∧
    L d 275 80 [l0, l1, l2, l3, l4, some (.ref ro), some (.int (iI lo)), some (.int (iI hi)), some (.int (iI x)), some (.int (iI rm)), l10, l11, l12, l13, l14, l15, l16, l17] [] (lw (lw h p N A) q Nb B, r) =
    L d 275 98 [l0, l1, l2, l3, l4, some (.ref ro), some (.int (iI lo)), some (.int (iI hi)), some (.int (iI y)), some (.int (iI rm)), l10, l11, l12, l13, l14, l15, l16, l17] [] (lw (lw h p N A) q Nb B, r) := by
  have ghi := hg hi (Nat.le_refl _)
  have stop : ∀ x, x + 2 ≤ hi → rm < G (x + 1 + 1) → ∃ y, x < y ∧ y < hi ∧
      L d 275 80 [l0, l1, l2, l3, l4, some (.ref ro), some (.int (iI lo)), some (.int (iI hi)), some (.int (iI x)), some (.int (iI rm)), l10, l11, l12, l13, l14, l15, l16, l17] [] (lw (lw h p N A) q Nb B, r) =
      L d 275 98 [l0, l1, l2, l3, l4, some (.ref ro), some (.int (iI lo)), some (.int (iI hi)), some (.int (iI y)), some (.int (iI rm)), l10, l11, l12, l13, l14, l15, l16, l17] [] (lw (lw h p N A) q Nb B, r) := by
    intro x hx hr
    have e1 : (x : Int) + 1 = ((x + 1 : Nat) : Int) := by omega
    have e2 : ((x + 1 : Nat) : Int) + 1 = ((x + 1 + 1 : Nat) : Int) := by omega
    have g1 := hg (x + 1 + 1) (by omega)
    have c1 : (rm : Int) < (G (x + 1 + 1) : Int) := by omega
    refine ⟨x + 1, by omega, by omega, ?_⟩
    rw [r275_80]
    simp (disch := omega) only [r275_82, r275_85, r275_87, r275_88, r275_89, r275_90, r275_92, r275_95, iI_add, e1, e2, rn_g hne hro, iI_lt, c1, kl_n, kl_i, kl_r, kl_z, kl_l, kl_d, catS_0, catS_c, cat_i, cat_l, cat_d, cat_r, cat_n, kC_r, kC_x, Option.bind_some, Option.toList_some, Option.toList_none, List.cons_append, List.nil_append, gB0, gB1, gB2, gB3, gB4, rvB, nI_iI, i0, i1, l0_, wr_s, aup_s, and_true, true_and, and_self, eq_self, if_true, if_false, Nat.zero_le, Nat.reduceAdd, Nat.reduceLeDiff, gN_I, gN_L, gN_P, bI_0, bI_ok, z0, z1, Bool.true_eq, Bool.false_eq_true, not_true_eq_false, not_false_eq_true]
  intro s
  induction s with
  | zero =>
    intro x hx
    exact stop x (by omega) (by rw [show x + 1 + 1 = hi by omega]; exact hrm)
  | succ s ih =>
    intro x hx
    by_cases c : rm < G (x + 1 + 1)
    · exact stop x (by omega) c
    · obtain ⟨y, y1, y2, y3⟩ := ih (x + 1) (by omega)
      have e1 : (x : Int) + 1 = ((x + 1 : Nat) : Int) := by omega
      have e2 : ((x + 1 : Nat) : Int) + 1 = ((x + 1 + 1 : Nat) : Int) := by omega
      have g1 := hg (x + 1 + 1) (by omega)
      have c1 : ¬ (rm : Int) < (G (x + 1 + 1) : Int) := by omega
      refine ⟨y, by omega, y2, ?_⟩
      rw [r275_80]
      simp (disch := omega) only [r275_82, r275_85, r275_87, r275_88, r275_89, r275_90, r275_92, r275_95, iI_add, e1, e2, rn_g hne hro, iI_lt, c1, y3, kl_n, kl_i, kl_r, kl_z, kl_l, kl_d, catS_0, catS_c, cat_i, cat_l, cat_d, cat_r, cat_n, kC_r, kC_x, Option.bind_some, Option.toList_some, Option.toList_none, List.cons_append, List.nil_append, gB0, gB1, gB2, gB3, gB4, rvB, nI_iI, i0, i1, l0_, wr_s, aup_s, and_true, true_and, and_self, eq_self, if_true, if_false, Nat.zero_le, Nat.reduceAdd, Nat.reduceLeDiff, gN_I, gN_L, gN_P, bI_0, bI_ok, z0, z1, Bool.true_eq, Bool.false_eq_true, not_true_eq_false, not_false_eq_true]
theorem cp_35 {d x z : Nat} {A : Nat → Nat} {l2 l3 l4 l5 l6 l11 l12 l13 l14 l15 l16 l17 : Option Value} {z7 : Int32} (hne : p ≠ q) (hz : z ≤ N ∧ z ≤ Nb ∧ N ≤ 2000 ∧ Nb ≤ 2000) : ∀ (m i : Nat) (B : Nat → Nat), i = x + m → i ≤ z → ∃ B', (∀ k, x ≤ k → k < i → B' k = A k) ∧ (∀ k, k < x ∨ i ≤ k → B' k = B k) ∧
    L d 275 35 [some (.ref p), some (.ref q), l2, l3, l4, l5, l6, some (.int z7), some (.int (iI i)), some (.int (iI i)), some (.int (iI x)), l11, l12, l13, l14, l15, l16, l17] [] (lw (lw h p N A) q Nb B, r) = some (.inl (some (.ref q)), (lw (lw h p N A) q Nb B', r)) := by
  intro m
  induction m with
  | zero =>
    intro i B hi hiz
    obtain rfl : i = x := by omega
    refine ⟨B, fun k h1 h2 => by omega, fun _ _ => rfl, ?_⟩
    rw [r275_35]
    simp (disch := omega) only [r275_37, r275_39, r275_42, r275_42n, r275_43, r275_46, r275_48, r275_48n, r275_49, r275_52, r275_54, r275_55, r275_56, r275_59, r275_59n, r275_60, iI_le, Int.le_refl, kl_n, kl_i, kl_r, kl_z, kl_l, kl_d, catS_0, catS_c, cat_i, cat_l, cat_d, cat_r, cat_n, kC_r, kC_x, Option.bind_some, Option.toList_some, Option.toList_none, List.cons_append, List.nil_append, gB0, gB1, gB2, gB3, gB4, rvB, nI_iI, i0, i1, l0_, wr_s, aup_s, and_true, true_and, and_self, eq_self, if_true, if_false, Nat.zero_le, Nat.reduceAdd, Nat.reduceLeDiff, gN_I, gN_L, gN_P, bI_0, bI_ok, z0, z1, Bool.true_eq, Bool.false_eq_true, not_true_eq_false, not_false_eq_true]
  | succ m ih =>
    intro i B hi hiz
    obtain rfl : i = x + m + 1 := by omega
    have c1 : ¬ ((x + m + 1 : Nat) : Int) ≤ x := by omega
    have e1 : ((x + m + 1 : Nat) : Int) + -1 = ((x + m : Nat) : Int) := by omega
    obtain ⟨B', b1, b2, hl⟩ := ih (x + m) (upN B (x + m) (A (x + m))) rfl (by omega)
    refine ⟨B', fun k h1 h2 => ?_, fun k hk => ?_, ?_⟩
    · by_cases e : k = x + m
      · rw [b2 k (by omega), e, upN_at]
      · exact b1 k h1 (by omega)
    · rw [b2 k (by omega), upN_o (by omega)]
    · rw [r275_35]
      simp (disch := omega) only [r275_37, r275_39, r275_42, r275_42n, r275_43, r275_46, r275_48, r275_48n, r275_49, r275_52, r275_54, r275_55, r275_56, r275_59, r275_59n, r275_60, iI_le, c1, iI_add, e1, lw_g2 hne, lw_s, lw_u, hl, kl_n, kl_i, kl_r, kl_z, kl_l, kl_d, catS_0, catS_c, cat_i, cat_l, cat_d, cat_r, cat_n, kC_r, kC_x, Option.bind_some, Option.toList_some, Option.toList_none, List.cons_append, List.nil_append, gB0, gB1, gB2, gB3, gB4, rvB, nI_iI, i0, i1, l0_, wr_s, aup_s, and_true, true_and, and_self, eq_self, if_true, if_false, Nat.zero_le, Nat.reduceAdd, Nat.reduceLeDiff, gN_I, gN_L, gN_P, bI_0, bI_ok, z0, z1, Bool.true_eq, Bool.false_eq_true, not_true_eq_false, not_false_eq_true]
theorem mr_all {top : Nat} (hne : p ≠ q ∧ ro ≠ p ∧ ro ≠ q) (hN : N ≤ 2000 ∧ Nb ≤ 2000) (hro : h ro = some (aI .int 127 (fun i => iI (G i)))) (hG : ∀ i j, i < j → j ≤ top → G i < G j) (ht : top ≤ 100 ∧ G top ≤ N ∧ G top ≤ Nb) : ∀ (m d lo hi : Nat) (am : Int) (A B : Nat → Nat), hi - lo ≤ m → lo < hi → hi ≤ top → m ≤ d → (-1 ≤ am ∧ am ≤ 1) → (∀ i, bd (A i)) → (∀ i, bd (B i)) → (∀ j, lo ≤ j → j < hi → sor A (G j) (G (j + 1))) →
    ∃ A' B' res, (res = p ∨ res = q) ∧ aE (d + 2) 275 [.ref p, .ref q, .int (iI 0), .int (iI am), .int (iI 0), .ref ro, .int (iI lo), .int (iI hi)] (lw (lw h p N A) q Nb B, r) = some (.inl (some (.ref res)), (lw (lw h p N A') q Nb B', r)) ∧
      (∀ i, i < G lo ∨ G hi ≤ i → A' i = A i) ∧ (∀ i, i < G lo ∨ G hi ≤ i → B' i = B i) ∧ (∀ i, bd (A' i)) ∧ (∀ i, bd (B' i)) ∧ (res = p → mrR A A' (G lo) (G hi)) ∧ (res = q → mrR A B' (G lo) (G hi)) ∧ (0 < am → res = p) ∧ (am < 0 → res = q) := by
  have hqp : q ≠ p := fun z => hne.1 z.symm
  have gle : ∀ i, i ≤ top → G i ≤ G top := fun i hi => by
    by_cases e : i = top
    · rw [e]
      exact Nat.le_refl _
    · exact Nat.le_of_lt (hG i top (by omega) (Nat.le_refl _))
  intro m
  induction m with
  | zero => intro d lo hi am A B h1 h2; omega
  | succ m ih =>
    intro d lo hi am A B hm hlo hhi hd ha hA hB hs
    have glh := hG lo hi hlo hhi
    have gh := gle hi hhi
    have f1 : (hi : Int) - lo = ((hi - lo : Nat) : Int) := by omega
    by_cases q1 : hi = lo + 1
    · subst q1
      have c1 : ((lo + 1 - lo : Nat) : Int) = 1 := by omega
      by_cases q2 : am < 0
      · obtain ⟨B', b1, b2, hl⟩ := cp_35 (r := r) (h := h) (p := p) (q := q) (N := N) (Nb := Nb) (d := d + 1) (x := G lo) (z := G (lo + 1)) (A := A) (l2 := some (.int (iI 0))) (l3 := some (.int (iI am))) (l4 := some (.int (iI 0))) (l5 := some (.ref ro)) (l6 := some (.int (iI lo))) (l11 := none) (l12 := none) (l13 := none) (l14 := none) (l15 := none) (l16 := none) (l17 := none) (z7 := iI (lo + 1 : Nat)) hne.1 (by omega) (G (lo + 1) - G lo) (G (lo + 1)) B (by omega) (Nat.le_refl _)
        refine ⟨A, B', q, Or.inr rfl, ?_, fun _ _ => rfl, b2, hA, fun i => ?_, fun z => absurd z hqp, fun _ => ⟨sor_e (hs lo (Nat.le_refl _) hlo) b1, fun v => cn_seg (by omega) b1⟩, fun z => by omega, fun _ => rfl⟩
        · rw [e275]
          simp (disch := omega) only [r275_0, r275_2, r275_4, r275_5, r275_6, r275_9, r275_10, r275_13, r275_13n, r275_14, r275_15, r275_15n, r275_17, r275_19, r275_20, r275_22, r275_24, r275_25, r275_26, r275_28, r275_28n, r275_30, r275_32, r275_33, iI_sub, f1, iI_eq, c1, iI_lt, q2, rn_g hne hro, Int.sub_zero, hl, kl_n, kl_i, kl_r, kl_z, kl_l, kl_d, catS_0, catS_c, cat_i, cat_l, cat_d, cat_r, cat_n, kC_r, kC_x, Option.bind_some, Option.toList_some, Option.toList_none, List.cons_append, List.nil_append, gB0, gB1, gB2, gB3, gB4, rvB, nI_iI, i0, i1, l0_, wr_s, aup_s, and_true, true_and, and_self, eq_self, if_true, if_false, Nat.zero_le, Nat.reduceAdd, Nat.reduceLeDiff, gN_I, gN_L, gN_P, bI_0, bI_ok, z0, z1, Bool.true_eq, Bool.false_eq_true, not_true_eq_false, not_false_eq_true]
        · by_cases e : i < G lo ∨ G (lo + 1) ≤ i
          · rw [b2 i e]
            exact hB i
          · rw [b1 i (by omega) (by omega)]
            exact hA i
      · refine ⟨A, B, p, Or.inl rfl, ?_, fun _ _ => rfl, fun _ _ => rfl, hA, hB, fun _ => ⟨hs lo (Nat.le_refl _) hlo, fun v => Nat.add_comm _ _⟩, fun z => absurd z hne.1, fun _ => rfl, fun z => absurd z q2⟩
        rw [e275]
        simp (disch := omega) only [r275_0, r275_2, r275_4, r275_5, r275_6, r275_9, r275_10, r275_13, r275_13n, r275_14, r275_15, r275_15n, r275_17, r275_19, r275_20, r275_22, r275_24, r275_25, r275_26, r275_28, r275_28n, r275_30, r275_32, r275_33, iI_sub, f1, iI_eq, c1, iI_lt, q2, kl_n, kl_i, kl_r, kl_z, kl_l, kl_d, catS_0, catS_c, cat_i, cat_l, cat_d, cat_r, cat_n, kC_r, kC_x, Option.bind_some, Option.toList_some, Option.toList_none, List.cons_append, List.nil_append, gB0, gB1, gB2, gB3, gB4, rvB, nI_iI, i0, i1, l0_, wr_s, aup_s, and_true, true_and, and_self, eq_self, if_true, if_false, Nat.zero_le, Nat.reduceAdd, Nat.reduceLeDiff, gN_I, gN_L, gN_P, bI_0, bI_ok, z0, z1, Bool.true_eq, Bool.false_eq_true, not_true_eq_false, not_false_eq_true]
    · have c1 : ¬ ((hi - lo : Nat) : Int) = 1 := by omega
      have f2 : (G lo : Int) + (G hi : Int) = ((G lo + G hi : Nat) : Int) := by omega
      obtain ⟨d, rfl⟩ : ∃ d', d = d' + 1 := ⟨d - 1, by omega⟩
      obtain ⟨y, y1, y2, k1⟩ := mi_80 (r := r) (h := h) (p := p) (q := q) (ro := ro) (N := N) (Nb := Nb) (G := G) (d := d + 2) (lo := lo) (hi := hi) (rm := (G lo + G hi) / 2) (A := A) (B := B) (l0 := some (.ref p)) (l1 := some (.ref q)) (l2 := some (.int (iI 0))) (l3 := some (.int (iI am))) (l4 := some (.int (iI 0))) (l10 := none) (l11 := none) (l12 := none) (l13 := none) (l14 := none) (l15 := none) (l16 := none) (l17 := none) hne hro (by omega) (fun i hi => by have := gle i (by omega); omega) (by omega) (hi - lo - 2) lo (by omega)
      have gly := hG lo y y1 (by omega)
      have gyh := hG y hi y2 hhi
      obtain ⟨A1, B1, res1, hr1, hl1, u1, w1, bA1, bB1, m1, n1, o1, o2⟩ := ih d lo y (-am) A B (by omega) y1 (by omega) (by omega) (by omega) hA hB (fun j h1 h2 => hs j h1 (by omega))
      obtain ⟨A2, B2, res2, hr2, hl2, u2, w2, bA2, bB2, m2, n2, o3, o4⟩ := ih d y hi 0 A1 B1 (by omega) y2 hhi (by omega) (by omega) bA1 bB1 (fun j h1 h2 => by
        have g1 : G y ≤ G j := by
          by_cases e : y = j
          · rw [e]
            exact Nat.le_refl _
          · exact Nat.le_of_lt (hG y j (by omega) (by omega))
        exact sor_e (hs j (by omega) h2) (fun i h3 h4 => u1 i (Or.inr (by omega))))
      have k0 : L (d + 2) 275 0 [some (.ref p), some (.ref q), some (.int (iI 0)), some (.int (iI am)), some (.int (iI 0)), some (.ref ro), some (.int (iI lo)), some (.int (iI hi)), none, none, none, none, none, none, none, none, none, none] [] (lw (lw h p N A) q Nb B, r) =
          L (d + 2) 275 197 [some (.ref p), some (.ref q), some (.int (iI 0)), some (.int (iI am)), some (.int (iI 0)), some (.ref ro), some (.int (iI lo)), some (.int (iI hi)), some (.int (iI y)), some (.int (iI ((G lo + G hi) / 2 : Nat))), some (.ref res1), some (.ref res2), none, none, none, none, none, none] [] (lw (lw h p N A2) q Nb B2, r) := by
        simp (disch := omega) only [r275_0, r275_2, r275_4, r275_5, r275_6, r275_9, r275_10, r275_13, r275_13n, r275_14, r275_15, r275_15n, r275_17, r275_19, r275_20, r275_22, r275_24, r275_25, r275_26, r275_28, r275_28n, r275_30, r275_32, r275_33, r275_61, r275_63, r275_65, r275_65n, r275_67, r275_69, r275_70, r275_70n, r275_72, r275_74, r275_75, r275_76, r275_77, r275_78, iI_sub, f1, iI_eq, c1, rn_g hne hro, iI_add, f2, ushr1, k1, kl_n, kl_i, kl_r, kl_z, kl_l, kl_d, catS_0, catS_c, cat_i, cat_l, cat_d, cat_r, cat_n, kC_r, kC_x, Option.bind_some, Option.toList_some, Option.toList_none, List.cons_append, List.nil_append, gB0, gB1, gB2, gB3, gB4, rvB, nI_iI, i0, i1, l0_, wr_s, aup_s, and_true, true_and, and_self, eq_self, if_true, if_false, Nat.zero_le, Nat.reduceAdd, Nat.reduceLeDiff, gN_I, gN_L, gN_P, bI_0, bI_ok, z0, z1, Bool.true_eq, Bool.false_eq_true, not_true_eq_false, not_false_eq_true]
        simp (disch := omega) only [r275_98, r275_100, r275_164, r275_164n, r275_165, r275_165n, r275_166, r275_167, r275_168, r275_169, r275_170, r275_170n, r275_172, r275_174, r275_176, r275_179, r275_179n, r275_181, r275_181n, r275_182, r275_182n, r275_183, r275_184, r275_185, r275_186, r275_186n, r275_188, r275_190, r275_192, r275_195, r275_195n, iI_neg, hl1, hl2, kl_n, kl_i, kl_r, kl_z, kl_l, kl_d, catS_0, catS_c, cat_i, cat_l, cat_d, cat_r, cat_n, kC_r, kC_x, Option.bind_some, Option.toList_some, Option.toList_none, List.cons_append, List.nil_append, gB0, gB1, gB2, gB3, gB4, rvB, nI_iI, i0, i1, l0_, wr_s, aup_s, and_true, true_and, and_self, eq_self, if_true, if_false, Nat.zero_le, Nat.reduceAdd, Nat.reduceLeDiff, gN_I, gN_L, gN_P, bI_0, bI_ok, z0, z1, Bool.true_eq, Bool.false_eq_true, not_true_eq_false, not_false_eq_true]
      have hA1 : ∀ i, G y ≤ i → i < G hi → A1 i = A i := fun i h1 h2 => u1 i (Or.inr h1)
      have i1 : (lw (lw h p N A2) q Nb B2 p).isSome = true := lw_i2 hne.1
      have i2 : (lw (lw h p N A2) q Nb B2 q).isSome = true := lw_i
      rcases hr1 with hr1 | hr1
      · -- into the second row
        subst hr1
        have t1 : ∀ i, G lo ≤ i → i < G y → A2 i = A1 i := fun i h1 h2 => u2 i (Or.inl h2)
        rcases hr2 with hr2 | hr2
        · subst hr2
          have sL : sor A2 (G lo) (G y) := sor_e (m1 rfl).1 t1
          have sR : sor A2 (G y) (G hi) := (m2 rfl).1
          obtain ⟨D', k2, k3⟩ := mpS_171 (r := r) (h := h) (d := d + 1) (t := q) (s := res2) (Nt := Nb) (Ns := N) (l9 := none) (l10 := none) (l11 := none) (l12 := none) (l13 := none) (l14 := none) (S := A2) (D0 := B2) hne.1 (by omega) (show G lo ≤ G y ∧ G y ≤ G hi ∧ G hi ≤ N ∧ G hi ≤ Nb by omega) bA2 sL sR (G y - G lo + (G hi - G y)) (G lo) (G y) (G lo) B2 rfl (MJ_0 (by omega))
          refine ⟨A2, D', q, Or.inr rfl, ?_, fun i hi => ?_, fun i hi => ?_, bA2, MJ_bd k2 bA2 bB2, fun z => absurd z hqp, fun _ => mr_join (by omega) (m1 rfl) (m2 rfl) hA1 t1 (fun _ _ _ => rfl) k2.2.2.1 k2.2.2.2.2, fun z => ?_, fun _ => rfl⟩
          · rw [e275, k0]
            simp (disch := omega) only [r275_197, r275_197n, r275_199, r275_199n, r275_200, r275_203, r275_203n, r275_204, r275_207, r275_207n, r275_208, r275_208n, r275_210, r275_210n, r275_212, r275_212n, r275_213, r275_216, r275_216n, r275_218, r275_220, r275_221, r275_222, r275_223, r275_226, r275_226n, r275_228, r275_230, r275_231, r275_233, r275_233n, r275_235, r275_235n, r275_236, r275_239, r275_239n, r275_241, r275_243, r275_244, r275_245, r275_246, r275_249, r275_249n, r275_251, r275_253, r275_254, r275_256, r275_256n, r275_258, r275_258n, r275_259, r275_262, r275_262n, r275_264, r275_266, r275_267, r275_268, r275_269, r275_272, r275_272n, r275_274, r275_276, r275_277, r275_279, r275_279n, r275_281, r275_281n, r275_282, r275_285, r275_285n, r275_287, r275_289, r275_290, r275_291, r275_292, r275_295, r275_295n, r275_297, r275_299, r275_300, r275_302, r275_302n, r275_304, r275_304n, r275_305, r275_308, r275_308n, r275_310, r275_312, r275_313, r275_314, r275_315, r275_318, r275_318n, r275_320, r275_322, r275_323, r275_325, r275_327, r275_333i, r275_333, r275_334, r275_335, r275_335n, r275_337, r275_339, r275_339n, r275_341, r275_343, r275_345, r275_345n, r275_347, r275_349, r275_357i, r275_357, r275_358, r275_361, r275_362, r275_362n, r275_364, r275_366, r275_366n, r275_368, r275_370, r275_372, r275_372n, r275_374, r275_376, i1, i2, hqp, hne.1, rn_g hne hro, iI_sub, Int.sub_zero, kl_n, kl_i, kl_r, kl_z, kl_l, kl_d, catS_0, catS_c, cat_i, cat_l, cat_d, cat_r, cat_n, kC_r, kC_x, Option.bind_some, Option.toList_some, Option.toList_none, List.cons_append, List.nil_append, gB0, gB1, gB2, gB3, gB4, rvB, nI_iI, i0, i1, l0_, wr_s, aup_s, and_true, true_and, and_self, eq_self, if_true, if_false, Nat.zero_le, Nat.reduceAdd, Nat.reduceLeDiff, gN_I, gN_L, gN_P, bI_0, bI_ok, z0, z1, Bool.true_eq, Bool.false_eq_true, not_true_eq_false, not_false_eq_true]
            simp (disch := omega) only [r275_378, e286, r286_0, r286_0n, r286_1, r286_1n, k3, r275_381, r275_381n, r275_383, kl_n, kl_i, kl_r, kl_z, kl_l, kl_d, catS_0, catS_c, cat_i, cat_l, cat_d, cat_r, cat_n, kC_r, kC_x, Option.bind_some, Option.toList_some, Option.toList_none, List.cons_append, List.nil_append, gB0, gB1, gB2, gB3, gB4, rvB, nI_iI, i0, i1, l0_, wr_s, aup_s, and_true, true_and, and_self, eq_self, if_true, if_false, Nat.zero_le, Nat.reduceAdd, Nat.reduceLeDiff, gN_I, gN_L, gN_P, bI_0, bI_ok, z0, z1, Bool.true_eq, Bool.false_eq_true, not_true_eq_false, not_false_eq_true]
          · rw [u2 i (by omega), u1 i (by omega)]
          · rw [k2.2.1 i (by omega), w2 i (by omega), w1 i (by omega)]
          · exact absurd (o2 (by omega)) hne.1
        · subst hr2
          have sL : sor A2 (G lo) (G y) := sor_e (m1 rfl).1 t1
          have sR : sor B2 (G y) (G hi) := (n2 rfl).1
          obtain ⟨D', p', k2, k3, -⟩ := mpD_171 (r := r) (h := h) (d := d + 1) (t := res2) (s := res1) (Nt := Nb) (Ns := N) (l9 := none) (l10 := none) (l11 := none) (l12 := none) (l13 := none) (l14 := none) (S := A2) (D0 := B2) (C := fun i => if i < G y then A2 i else B2 i) hne.1 (by omega) (show G lo ≤ G y ∧ G y ≤ G hi ∧ G y ≤ N ∧ G hi ≤ Nb by omega) bA2 bB2 (fun i hi => if_pos hi) (fun i hi => if_neg (by omega)) (sor_e sL (fun i _ h2 => if_pos h2)) (sor_e sR (fun i h1 _ => if_neg (by omega))) (G y - G lo + (G hi - G y)) (G lo) (G y) (G lo) B2 rfl (MJ_0 (by omega))
          have bC : ∀ i, bd ((fun i => if i < G y then A2 i else B2 i) i) := fun i => by
            show bd (if i < G y then A2 i else B2 i)
            split
            · exact bA2 i
            · exact bB2 i
          refine ⟨A2, D', res2, Or.inr rfl, ?_, fun i hi => ?_, fun i hi => ?_, bA2, MJ_bd k2 bC bB2, fun z => absurd z hqp, fun _ => mr_join (by omega) (m1 rfl) (n2 rfl) hA1 (fun i h1 h2 => (if_pos h2).trans (t1 i h1 h2)) (fun i h1 h2 => if_neg (by omega)) k2.2.2.1 k2.2.2.2.2, fun z => ?_, fun _ => rfl⟩
          · rw [e275, k0]
            simp (disch := omega) only [r275_197, r275_197n, r275_199, r275_199n, r275_200, r275_203, r275_203n, r275_204, r275_207, r275_207n, r275_208, r275_208n, r275_210, r275_210n, r275_212, r275_212n, r275_213, r275_216, r275_216n, r275_218, r275_220, r275_221, r275_222, r275_223, r275_226, r275_226n, r275_228, r275_230, r275_231, r275_233, r275_233n, r275_235, r275_235n, r275_236, r275_239, r275_239n, r275_241, r275_243, r275_244, r275_245, r275_246, r275_249, r275_249n, r275_251, r275_253, r275_254, r275_256, r275_256n, r275_258, r275_258n, r275_259, r275_262, r275_262n, r275_264, r275_266, r275_267, r275_268, r275_269, r275_272, r275_272n, r275_274, r275_276, r275_277, r275_279, r275_279n, r275_281, r275_281n, r275_282, r275_285, r275_285n, r275_287, r275_289, r275_290, r275_291, r275_292, r275_295, r275_295n, r275_297, r275_299, r275_300, r275_302, r275_302n, r275_304, r275_304n, r275_305, r275_308, r275_308n, r275_310, r275_312, r275_313, r275_314, r275_315, r275_318, r275_318n, r275_320, r275_322, r275_323, r275_325, r275_327, r275_333i, r275_333, r275_334, r275_335, r275_335n, r275_337, r275_339, r275_339n, r275_341, r275_343, r275_345, r275_345n, r275_347, r275_349, r275_357i, r275_357, r275_358, r275_361, r275_362, r275_362n, r275_364, r275_366, r275_366n, r275_368, r275_370, r275_372, r275_372n, r275_374, r275_376, i1, i2, hqp, hne.1, rn_g hne hro, iI_sub, Int.sub_zero, kl_n, kl_i, kl_r, kl_z, kl_l, kl_d, catS_0, catS_c, cat_i, cat_l, cat_d, cat_r, cat_n, kC_r, kC_x, Option.bind_some, Option.toList_some, Option.toList_none, List.cons_append, List.nil_append, gB0, gB1, gB2, gB3, gB4, rvB, nI_iI, i0, i1, l0_, wr_s, aup_s, and_true, true_and, and_self, eq_self, if_true, if_false, Nat.zero_le, Nat.reduceAdd, Nat.reduceLeDiff, gN_I, gN_L, gN_P, bI_0, bI_ok, z0, z1, Bool.true_eq, Bool.false_eq_true, not_true_eq_false, not_false_eq_true]
            simp (disch := omega) only [r275_378, e286, r286_0, r286_0n, r286_1, r286_1n, k3, r275_381, r275_381n, r275_383, kl_n, kl_i, kl_r, kl_z, kl_l, kl_d, catS_0, catS_c, cat_i, cat_l, cat_d, cat_r, cat_n, kC_r, kC_x, Option.bind_some, Option.toList_some, Option.toList_none, List.cons_append, List.nil_append, gB0, gB1, gB2, gB3, gB4, rvB, nI_iI, i0, i1, l0_, wr_s, aup_s, and_true, true_and, and_self, eq_self, if_true, if_false, Nat.zero_le, Nat.reduceAdd, Nat.reduceLeDiff, gN_I, gN_L, gN_P, bI_0, bI_ok, z0, z1, Bool.true_eq, Bool.false_eq_true, not_true_eq_false, not_false_eq_true]
          · rw [u2 i (by omega), u1 i (by omega)]
          · rw [k2.2.1 i (by omega), w2 i (by omega), w1 i (by omega)]
          · exact absurd (o2 (by omega)) hne.1
      · -- into the first row
        subst hr1
        have t1 : ∀ i, G lo ≤ i → i < G y → B2 i = B1 i := fun i h1 h2 => w2 i (Or.inl h2)
        have sL : sor B2 (G lo) (G y) := sor_e (n1 rfl).1 t1
        have hsw : ∀ A, lw (lw h p N A) res1 Nb B2 = lw (lw h res1 Nb B2) p N A := fun A => lw_c hne.1
        rcases hr2 with hr2 | hr2
        · subst hr2
          have sR : sor A2 (G y) (G hi) := (m2 rfl).1
          obtain ⟨D', p', k2, k3, -⟩ := mpD_171 (r := r) (h := h) (d := d + 1) (t := res2) (s := res1) (Nt := N) (Ns := Nb) (l9 := none) (l10 := none) (l11 := none) (l12 := none) (l13 := none) (l14 := none) (S := B2) (D0 := A2) (C := fun i => if i < G y then B2 i else A2 i) hqp (by omega) (show G lo ≤ G y ∧ G y ≤ G hi ∧ G y ≤ Nb ∧ G hi ≤ N by omega) bB2 bA2 (fun i hi => if_pos hi) (fun i hi => if_neg (by omega)) (sor_e sL (fun i _ h2 => if_pos h2)) (sor_e sR (fun i h1 _ => if_neg (by omega))) (G y - G lo + (G hi - G y)) (G lo) (G y) (G lo) A2 rfl (MJ_0 (by omega))
          rw [← hsw, ← hsw] at k3
          have bC : ∀ i, bd ((fun i => if i < G y then B2 i else A2 i) i) := fun i => by
            show bd (if i < G y then B2 i else A2 i)
            split
            · exact bB2 i
            · exact bA2 i
          refine ⟨D', B2, res2, Or.inl rfl, ?_, fun i hi => ?_, fun i hi => ?_, MJ_bd k2 bC bA2, bB2, fun _ => mr_join (by omega) (n1 rfl) (m2 rfl) hA1 (fun i h1 h2 => (if_pos h2).trans (t1 i h1 h2)) (fun i h1 h2 => if_neg (by omega)) k2.2.2.1 k2.2.2.2.2, fun z => absurd z hne.1, fun _ => rfl, fun z => ?_⟩
          · rw [e275, k0]
            simp (disch := omega) only [r275_197, r275_197n, r275_199, r275_199n, r275_200, r275_203, r275_203n, r275_204, r275_207, r275_207n, r275_208, r275_208n, r275_210, r275_210n, r275_212, r275_212n, r275_213, r275_216, r275_216n, r275_218, r275_220, r275_221, r275_222, r275_223, r275_226, r275_226n, r275_228, r275_230, r275_231, r275_233, r275_233n, r275_235, r275_235n, r275_236, r275_239, r275_239n, r275_241, r275_243, r275_244, r275_245, r275_246, r275_249, r275_249n, r275_251, r275_253, r275_254, r275_256, r275_256n, r275_258, r275_258n, r275_259, r275_262, r275_262n, r275_264, r275_266, r275_267, r275_268, r275_269, r275_272, r275_272n, r275_274, r275_276, r275_277, r275_279, r275_279n, r275_281, r275_281n, r275_282, r275_285, r275_285n, r275_287, r275_289, r275_290, r275_291, r275_292, r275_295, r275_295n, r275_297, r275_299, r275_300, r275_302, r275_302n, r275_304, r275_304n, r275_305, r275_308, r275_308n, r275_310, r275_312, r275_313, r275_314, r275_315, r275_318, r275_318n, r275_320, r275_322, r275_323, r275_325, r275_327, r275_333i, r275_333, r275_334, r275_335, r275_335n, r275_337, r275_339, r275_339n, r275_341, r275_343, r275_345, r275_345n, r275_347, r275_349, r275_357i, r275_357, r275_358, r275_361, r275_362, r275_362n, r275_364, r275_366, r275_366n, r275_368, r275_370, r275_372, r275_372n, r275_374, r275_376, i1, i2, hqp, hne.1, rn_g hne hro, iI_sub, Int.sub_zero, kl_n, kl_i, kl_r, kl_z, kl_l, kl_d, catS_0, catS_c, cat_i, cat_l, cat_d, cat_r, cat_n, kC_r, kC_x, Option.bind_some, Option.toList_some, Option.toList_none, List.cons_append, List.nil_append, gB0, gB1, gB2, gB3, gB4, rvB, nI_iI, i0, i1, l0_, wr_s, aup_s, and_true, true_and, and_self, eq_self, if_true, if_false, Nat.zero_le, Nat.reduceAdd, Nat.reduceLeDiff, gN_I, gN_L, gN_P, bI_0, bI_ok, z0, z1, Bool.true_eq, Bool.false_eq_true, not_true_eq_false, not_false_eq_true]
            simp (disch := omega) only [r275_378, e286, r286_0, r286_0n, r286_1, r286_1n, k3, r275_381, r275_381n, r275_383, kl_n, kl_i, kl_r, kl_z, kl_l, kl_d, catS_0, catS_c, cat_i, cat_l, cat_d, cat_r, cat_n, kC_r, kC_x, Option.bind_some, Option.toList_some, Option.toList_none, List.cons_append, List.nil_append, gB0, gB1, gB2, gB3, gB4, rvB, nI_iI, i0, i1, l0_, wr_s, aup_s, and_true, true_and, and_self, eq_self, if_true, if_false, Nat.zero_le, Nat.reduceAdd, Nat.reduceLeDiff, gN_I, gN_L, gN_P, bI_0, bI_ok, z0, z1, Bool.true_eq, Bool.false_eq_true, not_true_eq_false, not_false_eq_true]
          · rw [k2.2.1 i (by omega), u2 i (by omega), u1 i (by omega)]
          · rw [w2 i (by omega), w1 i (by omega)]
          · exact absurd (o1 (by omega)) hqp
        · subst hr2
          have sR : sor B2 (G y) (G hi) := (n2 rfl).1
          obtain ⟨D', k2, k3⟩ := mpS_171 (r := r) (h := h) (d := d + 1) (t := p) (s := res2) (Nt := N) (Ns := Nb) (l9 := none) (l10 := none) (l11 := none) (l12 := none) (l13 := none) (l14 := none) (S := B2) (D0 := A2) hqp (by omega) (show G lo ≤ G y ∧ G y ≤ G hi ∧ G hi ≤ Nb ∧ G hi ≤ N by omega) bB2 sL sR (G y - G lo + (G hi - G y)) (G lo) (G y) (G lo) A2 rfl (MJ_0 (by omega))
          rw [← hsw, ← hsw] at k3
          refine ⟨D', B2, p, Or.inl rfl, ?_, fun i hi => ?_, fun i hi => ?_, MJ_bd k2 bB2 bA2, bB2, fun _ => mr_join (by omega) (n1 rfl) (n2 rfl) hA1 t1 (fun _ _ _ => rfl) k2.2.2.1 k2.2.2.2.2, fun z => absurd z hne.1, fun _ => rfl, fun z => ?_⟩
          · rw [e275, k0]
            simp (disch := omega) only [r275_197, r275_197n, r275_199, r275_199n, r275_200, r275_203, r275_203n, r275_204, r275_207, r275_207n, r275_208, r275_208n, r275_210, r275_210n, r275_212, r275_212n, r275_213, r275_216, r275_216n, r275_218, r275_220, r275_221, r275_222, r275_223, r275_226, r275_226n, r275_228, r275_230, r275_231, r275_233, r275_233n, r275_235, r275_235n, r275_236, r275_239, r275_239n, r275_241, r275_243, r275_244, r275_245, r275_246, r275_249, r275_249n, r275_251, r275_253, r275_254, r275_256, r275_256n, r275_258, r275_258n, r275_259, r275_262, r275_262n, r275_264, r275_266, r275_267, r275_268, r275_269, r275_272, r275_272n, r275_274, r275_276, r275_277, r275_279, r275_279n, r275_281, r275_281n, r275_282, r275_285, r275_285n, r275_287, r275_289, r275_290, r275_291, r275_292, r275_295, r275_295n, r275_297, r275_299, r275_300, r275_302, r275_302n, r275_304, r275_304n, r275_305, r275_308, r275_308n, r275_310, r275_312, r275_313, r275_314, r275_315, r275_318, r275_318n, r275_320, r275_322, r275_323, r275_325, r275_327, r275_333i, r275_333, r275_334, r275_335, r275_335n, r275_337, r275_339, r275_339n, r275_341, r275_343, r275_345, r275_345n, r275_347, r275_349, r275_357i, r275_357, r275_358, r275_361, r275_362, r275_362n, r275_364, r275_366, r275_366n, r275_368, r275_370, r275_372, r275_372n, r275_374, r275_376, i1, i2, hqp, hne.1, rn_g hne hro, iI_sub, Int.sub_zero, kl_n, kl_i, kl_r, kl_z, kl_l, kl_d, catS_0, catS_c, cat_i, cat_l, cat_d, cat_r, cat_n, kC_r, kC_x, Option.bind_some, Option.toList_some, Option.toList_none, List.cons_append, List.nil_append, gB0, gB1, gB2, gB3, gB4, rvB, nI_iI, i0, i1, l0_, wr_s, aup_s, and_true, true_and, and_self, eq_self, if_true, if_false, Nat.zero_le, Nat.reduceAdd, Nat.reduceLeDiff, gN_I, gN_L, gN_P, bI_0, bI_ok, z0, z1, Bool.true_eq, Bool.false_eq_true, not_true_eq_false, not_false_eq_true]
            simp (disch := omega) only [r275_378, e286, r286_0, r286_0n, r286_1, r286_1n, k3, r275_381, r275_381n, r275_383, kl_n, kl_i, kl_r, kl_z, kl_l, kl_d, catS_0, catS_c, cat_i, cat_l, cat_d, cat_r, cat_n, kC_r, kC_x, Option.bind_some, Option.toList_some, Option.toList_none, List.cons_append, List.nil_append, gB0, gB1, gB2, gB3, gB4, rvB, nI_iI, i0, i1, l0_, wr_s, aup_s, and_true, true_and, and_self, eq_self, if_true, if_false, Nat.zero_le, Nat.reduceAdd, Nat.reduceLeDiff, gN_I, gN_L, gN_P, bI_0, bI_ok, z0, z1, Bool.true_eq, Bool.false_eq_true, not_true_eq_false, not_false_eq_true]
          · rw [k2.2.1 i (by omega), u2 i (by omega), u1 i (by omega)]
          · rw [w2 i (by omega), w1 i (by omega)]
          · exact absurd (o1 (by omega)) hqp
end
