/-! ===== events sorted: merged ===== -/
/-- how often a value lies in the first k -/
def cn (F : Nat → Nat) (v : Nat) : Nat → Nat := sm (fun i => if F i = v then 1 else 0)
theorem cn_s (F : Nat → Nat) (v k : Nat) : cn F v (k + 1) = cn F v k + if F k = v then 1 else 0 := rfl
theorem sm_congr {f g : Nat → Nat} : ∀ {k : Nat}, (∀ i, i < k → f i = g i) → sm f k = sm g k
  | 0, _ => rfl
  | k + 1, h => by
    show sm f k + f k = sm g k + g k
    rw [sm_congr (fun i hi => h i (by omega)), h k (by omega)]
theorem cn_congr {F G : Nat → Nat} {v k : Nat} (h : ∀ i, i < k → F i = G i) : cn F v k = cn G v k :=
  sm_congr (fun i hi => by rw [h i hi])
theorem cn_up {F : Nat → Nat} {p c v k : Nat} (hk : k ≤ p) : cn (upN F p c) v k = cn F v k :=
  cn_congr (fun i hi => by
    unfold upN
    rw [if_neg (by omega)])
theorem upN_at {F : Nat → Nat} {p c : Nat} : upN F p c p = c := if_pos rfl
theorem upN_o {F : Nat → Nat} {p c i : Nat} (h : i ≠ p) : upN F p c i = F i := if_neg h
def MI (C S0 S : Nat → Nat) (a b c l q p : Nat) : Prop :=
  (a ≤ l ∧ l ≤ b ∧ b ≤ q ∧ q ≤ c ∧ p + b = l + q) ∧ (∀ i, i < a → S i = S0 i) ∧ (∀ i j, a ≤ i → i < j → j < p → S i ≤ S j) ∧
  (∀ i j, a ≤ i → i < p → (l ≤ j ∧ j < b ∨ q ≤ j ∧ j < c) → S i ≤ C j) ∧ (∀ v, cn S v p + cn C v a + cn C v b = cn S v a + cn C v l + cn C v q) ∧ ∀ i, vOk (S i)
/-- sorted from a up to b -/
def sor (C : Nat → Nat) (a b : Nat) : Prop := ∀ i j, a ≤ i → i < j → j < b → C i ≤ C j
theorem MI_l {C S0 S : Nat → Nat} {a b c l q p : Nat} (h : MI C S0 S a b c l q p) (hl : l < b) (hs : sor C a b) (hC : ∀ i, vOk (C i)) (hq : ∀ j, q ≤ j → j < c → C l ≤ C j) : MI C S0 (upN S p (C l)) a b c (l + 1) q (p + 1) := by
  obtain ⟨⟨h1, h2, h3, h4, h5⟩, k1, k2, k3, k4, k5⟩ := h
  refine ⟨⟨by omega, by omega, h3, h4, by omega⟩, fun i hi => ?_, fun i j hi hij hj => ?_, fun i j hi hij hj => ?_, fun v => ?_, upN_ok (hC l) k5⟩
  · rw [upN_o (by omega), k1 i hi]
  · rw [upN_o (show i ≠ p by omega)]
    by_cases e : j = p
    · rw [e, upN_at]
      exact k3 i l hi (by omega) (Or.inl ⟨Nat.le_refl l, hl⟩)
    · rw [upN_o e]
      exact k2 i j hi hij (by omega)
  · by_cases e : i = p
    · rw [e, upN_at]
      rcases hj with hj | hj
      · exact hs l j (by omega) (by omega) hj.2
      · exact hq j hj.1 hj.2
    · rw [upN_o e]
      exact k3 i j hi (by omega) (hj.imp (fun z => ⟨by omega, z.2⟩) id)
  · rw [cn_s, cn_up (Nat.le_refl p), upN_at, cn_up (show a ≤ p by omega), cn_s]
    have := k4 v
    omega
theorem MI_r {C S0 S : Nat → Nat} {a b c l q p : Nat} (h : MI C S0 S a b c l q p) (hl : q < c) (hs : sor C b c) (hC : ∀ i, vOk (C i)) (hq : ∀ j, l ≤ j → j < b → C q ≤ C j) : MI C S0 (upN S p (C q)) a b c l (q + 1) (p + 1) := by
  obtain ⟨⟨h1, h2, h3, h4, h5⟩, k1, k2, k3, k4, k5⟩ := h
  refine ⟨⟨h1, h2, by omega, by omega, by omega⟩, fun i hi => ?_, fun i j hi hij hj => ?_, fun i j hi hij hj => ?_, fun v => ?_, upN_ok (hC q) k5⟩
  · rw [upN_o (by omega), k1 i hi]
  · rw [upN_o (show i ≠ p by omega)]
    by_cases e : j = p
    · rw [e, upN_at]
      exact k3 i q hi (by omega) (Or.inr ⟨Nat.le_refl q, hl⟩)
    · rw [upN_o e]
      exact k2 i j hi hij (by omega)
  · by_cases e : i = p
    · rw [e, upN_at]
      rcases hj with hj | hj
      · exact hq j hj.1 hj.2
      · exact hs q j (by omega) (by omega) hj.2
    · rw [upN_o e]
      exact k3 i j hi (by omega) (hj.imp id (fun z => ⟨by omega, z.2⟩))
  · rw [cn_s, cn_up (Nat.le_refl p), upN_at, cn_up (show a ≤ p by omega), cn_s]
    have := k4 v
    omega
section
variable {d : Nat} {h : aHf} {r : Nat × Nat × Nat × Nat} {x : Nat} {W : Dk}
theorem s_evAt {j : Nat} (hj : j < 960) : aE (d + 2) 153 [.ref (x + 401), .int (iI j)] (dkW h x W, r) = some (.inl (some (.long (lI (W.2.2.2.1.2.1 j)))), (dkW h x W, r)) := by
  have e := s_longAt (d := d) (r := r) (dk_rend (h := h) (x := x) (W := W)).2.1 (show (0 : Int) ≤ (j : Int) by omega) (by omega) (by decide)
  rw [Int.toNat_natCast] at e
  simp only [e153, r153_0, r153_1, r153_4, r153_5, r153_8, dk_r, e, kl_n, kl_i, kl_r, kl_z, kl_l, kl_d, catS_0, catS_c, cat_i, cat_l, cat_d, cat_r, cat_n, kC_r, kC_x, Option.bind_some, Option.toList_some, Option.toList_none, List.cons_append, List.nil_append, gB0, gB1, gB2, gB3, gB4, rvB, nI_iI, i0, i1, l0_, wr_s, aup_s, and_true, true_and, and_self, eq_self, if_true, if_false, Nat.zero_le, Nat.reduceAdd, Nat.reduceLeDiff, gN_I, gN_L, gN_P, bI_0, bI_ok, z0, z1, Bool.true_eq, Bool.false_eq_true, not_true_eq_false, not_false_eq_true]
theorem mg_loop {S0 : Nat → Nat} {a b c : Nat} {n' : Nat} {C : Nat → Nat} (hab : a ≤ b ∧ b ≤ c ∧ c ≤ 960) (hC : ∀ i, vOk (C i)) (s1 : sor C a b) (s2 : sor C b c) : ∀ (m l q p : Nat) (S : Nat → Nat), p + m = c → MI C S0 S a b c l q p →
    ∃ S', MI C S0 S' a b c b c c ∧ L (d + 3) 160 9 [some (.ref (x + 401)), some (.int (iI a)), some (.int (iI b)), some (.int (iI c)), some (.int (iI l)), some (.int (iI q)), some (.int (iI p))] [] (dkW h x (W.1, W.2.1, W.2.2.1, (n', C, S), W.2.2.2.2), r) =
      some (.inl none, (dkW h x (W.1, W.2.1, W.2.2.1, (n', C, S'), W.2.2.2.2), r)) := by
  intro m
  induction m with
  | zero =>
    intro l q p S hp hM
    have c1 : (c : Int) ≤ p := by omega
    have h5 := hM.1
    obtain rfl : l = b := by omega
    obtain rfl : q = c := by omega
    obtain rfl : p = q := by omega
    refine ⟨S, hM, ?_⟩
    rw [r160_9]
    simp (disch := omega) only [r160_0, r160_1, r160_3, r160_4, r160_6, r160_7, r160_11, r160_12, r160_15, r160_17, r160_18, r160_21, r160_23, r160_24, r160_27, r160_28, r160_30, r160_33, r160_34, r160_36, r160_39, r160_40, r160_43, r160_44, r160_47, r160_49, r160_50, r160_52, r160_55, r160_58, r160_61, r160_64, r160_65, r160_68, r160_70, r160_71, r160_73, r160_76, r160_79, r160_82, r160_85, r160_88, iI_le, c1, kl_n, kl_i, kl_r, kl_z, kl_l, kl_d, catS_0, catS_c, cat_i, cat_l, cat_d, cat_r, cat_n, kC_r, kC_x, Option.bind_some, Option.toList_some, Option.toList_none, List.cons_append, List.nil_append, gB0, gB1, gB2, gB3, gB4, rvB, nI_iI, i0, i1, l0_, wr_s, aup_s, and_true, true_and, and_self, eq_self, if_true, if_false, Nat.zero_le, Nat.reduceAdd, Nat.reduceLeDiff, gN_I, gN_L, gN_P, bI_0, bI_ok, z0, z1, Bool.true_eq, Bool.false_eq_true, not_true_eq_false, not_false_eq_true]
  | succ m ih =>
    intro l q p S hp hM
    have h5 := hM.1
    have c1 : ¬ (c : Int) ≤ p := by omega
    have e1 : (p : Int) + 1 = ((p + 1 : Nat) : Int) := by omega
    have e2 : (l : Int) + 1 = ((l + 1 : Nat) : Int) := by omega
    have e3 : (q : Int) + 1 = ((q + 1 : Nat) : Int) := by omega
    have pl : ∀ z : Nat, aE (d + 3) 32 [.ref (x + 401 + 2), .int (iI p), .long (lI z)] (dkW h x (W.1, W.2.1, W.2.2.1, (n', C, S), W.2.2.2.2), r) = some (.inl none, (dkW h x (W.1, W.2.1, W.2.2.1, (n', C, upN S p z), W.2.2.2.2), r)) := fun z => by
      have e := s_putLong (d := d + 2) (r := r) (h := dkW h x (W.1, W.2.1, W.2.2.1, (n', C, S), W.2.2.2.2)) (x := lI z) (j := (p : Int)) dk_rend.2.2 (by omega) (by omega) (by decide)
      rw [Int.toNat_natCast, updL_N, dk_rs] at e
      exact e
    by_cases t1 : l < b
    · have n1 : ¬ (b : Int) ≤ l := by omega
      by_cases t2 : c ≤ q
      · have n2 : (c : Int) ≤ q := by omega
        obtain ⟨S', z1, z2⟩ := ih (l + 1) q (p + 1) (upN S p (C l)) (by omega) (MI_l hM t1 s1 hC (fun j h1 h2 => by omega))
        refine ⟨S', z1, ?_⟩
        rw [r160_9]
        simp (disch := omega) only [r160_0, r160_1, r160_3, r160_4, r160_6, r160_7, r160_11, r160_12, r160_15, r160_17, r160_18, r160_21, r160_23, r160_24, r160_27, r160_28, r160_30, r160_33, r160_34, r160_36, r160_39, r160_40, r160_43, r160_44, r160_47, r160_49, r160_50, r160_52, r160_55, r160_58, r160_61, r160_64, r160_65, r160_68, r160_70, r160_71, r160_73, r160_76, r160_79, r160_82, r160_85, r160_88, iI_le, c1, n1, n2, dk_r, s_evAt, pl, iI_add, e1, e2, z2, kl_n, kl_i, kl_r, kl_z, kl_l, kl_d, catS_0, catS_c, cat_i, cat_l, cat_d, cat_r, cat_n, kC_r, kC_x, Option.bind_some, Option.toList_some, Option.toList_none, List.cons_append, List.nil_append, gB0, gB1, gB2, gB3, gB4, rvB, nI_iI, i0, i1, l0_, wr_s, aup_s, and_true, true_and, and_self, eq_self, if_true, if_false, Nat.zero_le, Nat.reduceAdd, Nat.reduceLeDiff, gN_I, gN_L, gN_P, bI_0, bI_ok, z0, z1, Bool.true_eq, Bool.false_eq_true, not_true_eq_false, not_false_eq_true]
      · have n2 : ¬ (c : Int) ≤ q := by omega
        have v1 := hC l
        have v2 := hC q
        unfold vOk at v1 v2
        by_cases t3 : C l ≤ C q
        · have n3 : ¬ (C q : Int) < (C l : Int) := by omega
          obtain ⟨S', z1, z2⟩ := ih (l + 1) q (p + 1) (upN S p (C l)) (by omega) (MI_l hM t1 s1 hC (fun j h1 h2 => by
            by_cases e : j = q
            · rw [e]; exact t3
            · exact Nat.le_trans t3 (s2 q j (by omega) (by omega) h2)))
          refine ⟨S', z1, ?_⟩
          rw [r160_9]
          simp (disch := omega) only [r160_0, r160_1, r160_3, r160_4, r160_6, r160_7, r160_11, r160_12, r160_15, r160_17, r160_18, r160_21, r160_23, r160_24, r160_27, r160_28, r160_30, r160_33, r160_34, r160_36, r160_39, r160_40, r160_43, r160_44, r160_47, r160_49, r160_50, r160_52, r160_55, r160_58, r160_61, r160_64, r160_65, r160_68, r160_70, r160_71, r160_73, r160_76, r160_79, r160_82, r160_85, r160_88, iI_le, c1, n1, n2, dk_r, s_evAt, lc_gt, lI_lt, n3, pl, iI_add, e1, e2, z2, kl_n, kl_i, kl_r, kl_z, kl_l, kl_d, catS_0, catS_c, cat_i, cat_l, cat_d, cat_r, cat_n, kC_r, kC_x, Option.bind_some, Option.toList_some, Option.toList_none, List.cons_append, List.nil_append, gB0, gB1, gB2, gB3, gB4, rvB, nI_iI, i0, i1, l0_, wr_s, aup_s, and_true, true_and, and_self, eq_self, if_true, if_false, Nat.zero_le, Nat.reduceAdd, Nat.reduceLeDiff, gN_I, gN_L, gN_P, bI_0, bI_ok, z0, z1, Bool.true_eq, Bool.false_eq_true, not_true_eq_false, not_false_eq_true]
        · have n3 : (C q : Int) < (C l : Int) := by omega
          obtain ⟨S', z1, z2⟩ := ih l (q + 1) (p + 1) (upN S p (C q)) (by omega) (MI_r hM (by omega) s2 hC (fun j h1 h2 => by
            by_cases e : j = l
            · rw [e]; omega
            · have := s1 l j (by omega) (by omega) h2; omega))
          refine ⟨S', z1, ?_⟩
          rw [r160_9]
          simp (disch := omega) only [r160_0, r160_1, r160_3, r160_4, r160_6, r160_7, r160_11, r160_12, r160_15, r160_17, r160_18, r160_21, r160_23, r160_24, r160_27, r160_28, r160_30, r160_33, r160_34, r160_36, r160_39, r160_40, r160_43, r160_44, r160_47, r160_49, r160_50, r160_52, r160_55, r160_58, r160_61, r160_64, r160_65, r160_68, r160_70, r160_71, r160_73, r160_76, r160_79, r160_82, r160_85, r160_88, iI_le, c1, n1, n2, dk_r, s_evAt, lc_gt, lI_lt, n3, pl, iI_add, e1, e3, z2, kl_n, kl_i, kl_r, kl_z, kl_l, kl_d, catS_0, catS_c, cat_i, cat_l, cat_d, cat_r, cat_n, kC_r, kC_x, Option.bind_some, Option.toList_some, Option.toList_none, List.cons_append, List.nil_append, gB0, gB1, gB2, gB3, gB4, rvB, nI_iI, i0, i1, l0_, wr_s, aup_s, and_true, true_and, and_self, eq_self, if_true, if_false, Nat.zero_le, Nat.reduceAdd, Nat.reduceLeDiff, gN_I, gN_L, gN_P, bI_0, bI_ok, z0, z1, Bool.true_eq, Bool.false_eq_true, not_true_eq_false, not_false_eq_true]
    · have n1 : (b : Int) ≤ l := by omega
      obtain ⟨S', z1, z2⟩ := ih l (q + 1) (p + 1) (upN S p (C q)) (by omega) (MI_r hM (by omega) s2 hC (fun j h1 h2 => by omega))
      refine ⟨S', z1, ?_⟩
      rw [r160_9]
      simp (disch := omega) only [r160_0, r160_1, r160_3, r160_4, r160_6, r160_7, r160_11, r160_12, r160_15, r160_17, r160_18, r160_21, r160_23, r160_24, r160_27, r160_28, r160_30, r160_33, r160_34, r160_36, r160_39, r160_40, r160_43, r160_44, r160_47, r160_49, r160_50, r160_52, r160_55, r160_58, r160_61, r160_64, r160_65, r160_68, r160_70, r160_71, r160_73, r160_76, r160_79, r160_82, r160_85, r160_88, iI_le, c1, n1, dk_r, s_evAt, pl, iI_add, e1, e3, z2, kl_n, kl_i, kl_r, kl_z, kl_l, kl_d, catS_0, catS_c, cat_i, cat_l, cat_d, cat_r, cat_n, kC_r, kC_x, Option.bind_some, Option.toList_some, Option.toList_none, List.cons_append, List.nil_append, gB0, gB1, gB2, gB3, gB4, rvB, nI_iI, i0, i1, l0_, wr_s, aup_s, and_true, true_and, and_self, eq_self, if_true, if_false, Nat.zero_le, Nat.reduceAdd, Nat.reduceLeDiff, gN_I, gN_L, gN_P, bI_0, bI_ok, z0, z1, Bool.true_eq, Bool.false_eq_true, not_true_eq_false, not_false_eq_true]
theorem s_merge {a b c : Nat} {n' : Nat} {C S : Nat → Nat} (hab : a ≤ b ∧ b ≤ c ∧ c ≤ 960) (hC : ∀ i, vOk (C i)) (hS : ∀ i, vOk (S i)) (s1 : sor C a b) (s2 : sor C b c) :
    ∃ S', (∀ i, i < a → S' i = S i) ∧ sor S' a c ∧ (∀ v, cn S' v c + cn C v a = cn S' v a + cn C v c) ∧ (∀ i, vOk (S' i)) ∧ aE (d + 4) 160 [.ref (x + 401), .int (iI a), .int (iI b), .int (iI c)] (dkW h x (W.1, W.2.1, W.2.2.1, (n', C, S), W.2.2.2.2), r) =
      some (.inl none, (dkW h x (W.1, W.2.1, W.2.2.1, (n', C, S'), W.2.2.2.2), r)) := by
  obtain ⟨S', z1, z2⟩ := mg_loop (d := d) (h := h) (r := r) (x := x) (W := W) (S0 := S) (n' := n') hab hC s1 s2 (c - a) a b a S (by omega) ⟨⟨by omega, by omega, by omega, by omega, by omega⟩, fun i hi => rfl, fun i j h1 h2 h3 => by omega, fun i j h1 h2 => by omega, fun v => by omega, hS⟩
  obtain ⟨k0, k1, k2, k3, k4, k5⟩ := z1
  refine ⟨S', k1, k2, fun v => ?_, k5, ?_⟩
  · have := k4 v
    omega
  · simp (disch := omega) only [e160, r160_0, r160_1, r160_3, r160_4, r160_6, r160_7, r160_11, r160_12, r160_15, r160_17, r160_18, r160_21, r160_23, r160_24, r160_27, r160_28, r160_30, r160_33, r160_34, r160_36, r160_39, r160_40, r160_43, r160_44, r160_47, r160_49, r160_50, r160_52, r160_55, r160_58, r160_61, r160_64, r160_65, r160_68, r160_70, r160_71, r160_73, r160_76, r160_79, r160_82, r160_85, r160_88, z2, kl_n, kl_i, kl_r, kl_z, kl_l, kl_d, catS_0, catS_c, cat_i, cat_l, cat_d, cat_r, cat_n, kC_r, kC_x, Option.bind_some, Option.toList_some, Option.toList_none, List.cons_append, List.nil_append, gB0, gB1, gB2, gB3, gB4, rvB, nI_iI, i0, i1, l0_, wr_s, aup_s, and_true, true_and, and_self, eq_self, if_true, if_false, Nat.zero_le, Nat.reduceAdd, Nat.reduceLeDiff, gN_I, gN_L, gN_P, bI_0, bI_ok, z0, z1, Bool.true_eq, Bool.false_eq_true, not_true_eq_false, not_false_eq_true]
end
