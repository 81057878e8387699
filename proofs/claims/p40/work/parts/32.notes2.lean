/-! ===== more of notes; events as numbers ===== -/
theorem fin_T {p : Prop} [Decidable p] {H : aH} (hp : p) : (some ((.inl (some (.int (iI 1))) : aO), H) : aR) = some (.inl (some (.int (bI p))), H) := by rw [bI_T hp]
theorem fin_F {p : Prop} [Decidable p] {H : aH} (hp : ¬ p) : (some ((.inl (some (.int (iI 0))) : aO), H) : aR) = some (.inl (some (.int (bI p))), H) := by rw [bI_F hp]
/-- a test of all places from i on -/
def alR (p : Nat → Bool) : Nat → Nat → Bool
  | _, 0 => true
  | i, m + 1 => p i && alR p (i + 1) m
theorem alR_iff (p : Nat → Bool) : ∀ m i, alR p i m = true ↔ ∀ j, i ≤ j → j < i + m → p j = true := by
  intro m
  induction m with
  | zero => intro i; exact ⟨fun _ j h1 h2 => absurd h2 (by omega), fun _ => rfl⟩
  | succ m ih =>
    intro i
    show (p i && alR p (i + 1) m) = true ↔ _
    rw [Bool.and_eq_true, ih (i + 1)]
    constructor
    · intro ⟨h1, h2⟩ j h3 h4
      by_cases e : j = i
      · rw [e]; exact h1
      · exact h2 j (by omega) (by omega)
    · intro h
      exact ⟨h i (Nat.le_refl i) (by omega), fun j h3 h4 => h j (by omega) (by omega)⟩
theorem alR_0 (p : Nat → Bool) (n : Nat) : alR p 0 n = true ↔ ∀ j, j < n → p j = true := by
  rw [alR_iff]
  exact ⟨fun h j hj => h j (Nat.zero_le j) (by omega), fun h j _ hj => h j (by omega)⟩
abbrev clash (c e : Nat) : Prop := cT c = cT e ∧ cP c = cP e ∧ cS c < cS e + cL e ∧ cS e < cS c + cL c
def cFact (c : Nat) : Nat → Nat
  | 0 => cT c
  | 1 => cS c
  | 2 => cL c
  | 3 => cP c
  | _ => cF c
section
variable {d : Nat} {h : aHf} {r : Nat × Nat × Nat × Nat}
theorem s_isClash {c e : Nat} (hc : cOk c) (he : cOk e) : aE (d + 3) 98 [.long (lI c), .long (lI e)] (h, r) = some (.inl (some (.int (bI (clash c e)))), (h, r)) := by
  have a1 := cT_lt hc
  have a2 := cT_lt he
  have a3 := cP_lt c
  have a4 := cP_lt e
  have a5 := cS_lt c
  have a6 := cS_lt e
  have a7 := cL_lt c
  have a8 := cL_lt e
  simp (disch := omega) only [e98, r98_0, r98_1, r98_4, r98_5, r98_8, r98_11, r98_12, r98_15, r98_16, r98_19, r98_22, r98_23, r98_26, r98_27, r98_30, r98_33, r98_34, r98_37, r98_38, r98_41, r98_44, r98_45, r98_48, r98_49, s_track hc, s_track he, s_pitch hc, s_pitch he, s_start hc, s_start he, s_end hc, s_end he, iI_lt, iI_le, iI_eq, kl_n, kl_i, kl_r, kl_z, kl_l, kl_d, catS_0, catS_c, cat_i, cat_l, cat_d, cat_r, cat_n, kC_r, kC_x, Option.bind_some, Option.toList_some, Option.toList_none, List.cons_append, List.nil_append, gB0, gB1, gB2, gB3, gB4, rvB, nI_iI, i0, i1, l0_, wr_s, aup_s, and_true, true_and, and_self, eq_self, if_true, if_false, Nat.zero_le, Nat.reduceAdd, Nat.reduceLeDiff, gN_I, gN_L, gN_P, bI_0, bI_ok, z0, z1, Bool.true_eq, Bool.false_eq_true, not_true_eq_false, not_false_eq_true]
  repeat' split
  all_goals first
    | exact fin_T (by unfold clash; omega)
    | exact fin_F (by unfold clash; omega)
theorem s_fact {c w : Nat} (hc : cOk c) (hw : w ≤ 4) : aE (d + 2) 99 [.long (lI c), .int (iI w)] (h, r) = some (.inl (some (.int (iI (cFact c w)))), (h, r)) := by
  match w, hw with
  | 0, _ =>
    show aE (d + 2) 99 [.long (lI c), .int (iI 0)] (h, r) = _
    simp only [e99, r99_0, r99_1c0, r99_1c1, r99_1c2, r99_1c3, r99_1d, r99_32, r99_33, r99_36, r99_37, r99_38, r99_41, r99_42, r99_43, r99_46, r99_47, r99_48, r99_51, r99_52, r99_53, r99_56, s_track hc, cFact, kl_n, kl_i, kl_r, kl_z, kl_l, kl_d, catS_0, catS_c, cat_i, cat_l, cat_d, cat_r, cat_n, kC_r, kC_x, Option.bind_some, Option.toList_some, Option.toList_none, List.cons_append, List.nil_append, gB0, gB1, gB2, gB3, gB4, rvB, nI_iI, i0, i1, l0_, wr_s, aup_s, and_true, true_and, and_self, eq_self, if_true, if_false, Nat.zero_le, Nat.reduceAdd, Nat.reduceLeDiff, gN_I, gN_L, gN_P, bI_0, bI_ok, z0, z1, Bool.true_eq, Bool.false_eq_true, not_true_eq_false, not_false_eq_true]
  | 1, _ =>
    show aE (d + 2) 99 [.long (lI c), .int (iI 1)] (h, r) = _
    simp only [e99, r99_0, r99_1c0, r99_1c1, r99_1c2, r99_1c3, r99_1d, r99_32, r99_33, r99_36, r99_37, r99_38, r99_41, r99_42, r99_43, r99_46, r99_47, r99_48, r99_51, r99_52, r99_53, r99_56, s_start hc, cFact, kl_n, kl_i, kl_r, kl_z, kl_l, kl_d, catS_0, catS_c, cat_i, cat_l, cat_d, cat_r, cat_n, kC_r, kC_x, Option.bind_some, Option.toList_some, Option.toList_none, List.cons_append, List.nil_append, gB0, gB1, gB2, gB3, gB4, rvB, nI_iI, i0, i1, l0_, wr_s, aup_s, and_true, true_and, and_self, eq_self, if_true, if_false, Nat.zero_le, Nat.reduceAdd, Nat.reduceLeDiff, gN_I, gN_L, gN_P, bI_0, bI_ok, z0, z1, Bool.true_eq, Bool.false_eq_true, not_true_eq_false, not_false_eq_true]
  | 2, _ =>
    show aE (d + 2) 99 [.long (lI c), .int (iI 2)] (h, r) = _
    simp only [e99, r99_0, r99_1c0, r99_1c1, r99_1c2, r99_1c3, r99_1d, r99_32, r99_33, r99_36, r99_37, r99_38, r99_41, r99_42, r99_43, r99_46, r99_47, r99_48, r99_51, r99_52, r99_53, r99_56, s_length hc, cFact, kl_n, kl_i, kl_r, kl_z, kl_l, kl_d, catS_0, catS_c, cat_i, cat_l, cat_d, cat_r, cat_n, kC_r, kC_x, Option.bind_some, Option.toList_some, Option.toList_none, List.cons_append, List.nil_append, gB0, gB1, gB2, gB3, gB4, rvB, nI_iI, i0, i1, l0_, wr_s, aup_s, and_true, true_and, and_self, eq_self, if_true, if_false, Nat.zero_le, Nat.reduceAdd, Nat.reduceLeDiff, gN_I, gN_L, gN_P, bI_0, bI_ok, z0, z1, Bool.true_eq, Bool.false_eq_true, not_true_eq_false, not_false_eq_true]
  | 3, _ =>
    show aE (d + 2) 99 [.long (lI c), .int (iI 3)] (h, r) = _
    simp only [e99, r99_0, r99_1c0, r99_1c1, r99_1c2, r99_1c3, r99_1d, r99_32, r99_33, r99_36, r99_37, r99_38, r99_41, r99_42, r99_43, r99_46, r99_47, r99_48, r99_51, r99_52, r99_53, r99_56, s_pitch hc, cFact, kl_n, kl_i, kl_r, kl_z, kl_l, kl_d, catS_0, catS_c, cat_i, cat_l, cat_d, cat_r, cat_n, kC_r, kC_x, Option.bind_some, Option.toList_some, Option.toList_none, List.cons_append, List.nil_append, gB0, gB1, gB2, gB3, gB4, rvB, nI_iI, i0, i1, l0_, wr_s, aup_s, and_true, true_and, and_self, eq_self, if_true, if_false, Nat.zero_le, Nat.reduceAdd, Nat.reduceLeDiff, gN_I, gN_L, gN_P, bI_0, bI_ok, z0, z1, Bool.true_eq, Bool.false_eq_true, not_true_eq_false, not_false_eq_true]
  | 4, _ =>
    show aE (d + 2) 99 [.long (lI c), .int (iI 4)] (h, r) = _
    simp only [e99, r99_0, r99_1d (show (iI 4).toInt < 0 ∨ 3 < (iI 4).toInt by decide), r99_0, r99_1c0, r99_1c1, r99_1c2, r99_1c3, r99_1d, r99_32, r99_33, r99_36, r99_37, r99_38, r99_41, r99_42, r99_43, r99_46, r99_47, r99_48, r99_51, r99_52, r99_53, r99_56, s_force hc, cFact, kl_n, kl_i, kl_r, kl_z, kl_l, kl_d, catS_0, catS_c, cat_i, cat_l, cat_d, cat_r, cat_n, kC_r, kC_x, Option.bind_some, Option.toList_some, Option.toList_none, List.cons_append, List.nil_append, gB0, gB1, gB2, gB3, gB4, rvB, nI_iI, i0, i1, l0_, wr_s, aup_s, and_true, true_and, and_self, eq_self, if_true, if_false, Nat.zero_le, Nat.reduceAdd, Nat.reduceLeDiff, gN_I, gN_L, gN_P, bI_0, bI_ok, z0, z1, Bool.true_eq, Bool.false_eq_true, not_true_eq_false, not_false_eq_true]
end
section
variable {d a n : Nat} {h : aHf} {r : Nat × Nat × Nat × Nat} {F : Nat → Nat}
/-- a list that is only read -/
theorem s_codeAtG {o m : Nat} {G : Nat → Nat} {j : Int} (h1 : h o = some (aB 4 [.ref (o + 1), .int (iI m)])) (h2 : h (o + 1) = some (aL 60 (fun i => lI (G i)))) (h3 : 0 ≤ j) (h4 : j < 60) : aE (d + 2) 138 [.ref o, .int (iI j)] (h, r) = some (.inl (some (.long (lI (G j.toNat)))), (h, r)) := by
  have e := s_codeAt (d := d) (a := o) (n := m) (h := h) (r := r) (F := G) h3 h4
  rwa [nl_id h1 h2] at e
theorem nlike_loop {o : Nat} {G : Nat → Nat} (a1 : h a = some (aB 4 [.ref (a + 1), .int (iI n)])) (a2 : h (a + 1) = some (aL 60 (fun i => lI (F i)))) (h1 : h o = some (aB 4 [.ref (o + 1), .int (iI n)])) (h2 : h (o + 1) = some (aL 60 (fun i => lI (G i)))) (hn : n ≤ 60) (hF : ∀ i, cOk (F i)) (hG : ∀ i, cOk (G i)) :
    ∀ m i : Nat, i + m = n → L (d + 2) 139 15 [some (.ref a), some (.ref o), some (.int (iI i))] [] (h, r) = some (.inl (some (.int (bI (alR (fun j => F j == G j) i m = true)))), (h, r)) := by
  intro m
  induction m with
  | zero =>
    intro i hi
    have c1 : (n : Int) ≤ i := by omega
    rw [r139_15]
    simp (disch := omega) only [r139_0, r139_1, r139_4, r139_5, r139_8, r139_11, r139_12, r139_13, r139_14, r139_16, r139_17, r139_20, r139_23, r139_24, r139_25, r139_28, r139_29, r139_30, r139_33, r139_34, r139_37, r139_38, r139_39, r139_42, r139_45, r139_46, a1, iI_le, c1, kl_n, kl_i, kl_r, kl_z, kl_l, kl_d, catS_0, catS_c, cat_i, cat_l, cat_d, cat_r, cat_n, kC_r, kC_x, Option.bind_some, Option.toList_some, Option.toList_none, List.cons_append, List.nil_append, gB0, gB1, gB2, gB3, gB4, rvB, nI_iI, i0, i1, l0_, wr_s, aup_s, and_true, true_and, and_self, eq_self, if_true, if_false, Nat.zero_le, Nat.reduceAdd, Nat.reduceLeDiff, gN_I, gN_L, gN_P, bI_0, bI_ok, z0, z1, Bool.true_eq, Bool.false_eq_true, not_true_eq_false, not_false_eq_true]
    exact fin_T rfl
  | succ m ih =>
    intro i hi
    have c1 : ¬ (n : Int) ≤ i := by omega
    have e1 : (i : Int) + 1 = ((i + 1 : Nat) : Int) := by omega
    have b1 := hF i
    have b2 := hG i
    unfold cOk at b1 b2
    rw [r139_15]
    simp (disch := omega) only [r139_0, r139_1, r139_4, r139_5, r139_8, r139_11, r139_12, r139_13, r139_14, r139_16, r139_17, r139_20, r139_23, r139_24, r139_25, r139_28, r139_29, r139_30, r139_33, r139_34, r139_37, r139_38, r139_39, r139_42, r139_45, r139_46, a1, h1, iI_le, c1, s_codeAtG a1 a2, s_codeAtG h1 h2, Int.toNat_natCast, lc_eq, lI_eq, iI_add, e1, ih (i + 1) (by omega), kl_n, kl_i, kl_r, kl_z, kl_l, kl_d, catS_0, catS_c, cat_i, cat_l, cat_d, cat_r, cat_n, kC_r, kC_x, Option.bind_some, Option.toList_some, Option.toList_none, List.cons_append, List.nil_append, gB0, gB1, gB2, gB3, gB4, rvB, nI_iI, i0, i1, l0_, wr_s, aup_s, and_true, true_and, and_self, eq_self, if_true, if_false, Nat.zero_le, Nat.reduceAdd, Nat.reduceLeDiff, gN_I, gN_L, gN_P, bI_0, bI_ok, z0, z1, Bool.true_eq, Bool.false_eq_true, not_true_eq_false, not_false_eq_true]
    by_cases q : F i = G i
    · rw [if_pos (by omega)]
      have : alR (fun j => F j == G j) i (m + 1) = alR (fun j => F j == G j) (i + 1) m := by
        show ((F i == G i) && _) = _
        rw [beq_iff_eq.mpr q, Bool.true_and]
      rw [this]
    · rw [if_neg (by omega)]
      refine fin_F ?_
      show ¬ ((F i == G i) && _) = true
      rw [beq_eq_false_iff_ne.mpr q, Bool.false_and]
      exact fun z => by cases z
theorem s_nlike {o m : Nat} {G : Nat → Nat} (a1 : h a = some (aB 4 [.ref (a + 1), .int (iI n)])) (a2 : h (a + 1) = some (aL 60 (fun i => lI (F i)))) (h1 : h o = some (aB 4 [.ref (o + 1), .int (iI m)])) (h2 : h (o + 1) = some (aL 60 (fun i => lI (G i)))) (hn : n ≤ 60) (hm : m ≤ 60) (hF : ∀ i, cOk (F i)) (hG : ∀ i, cOk (G i)) :
    aE (d + 3) 139 [.ref a, .ref o] (h, r) = some (.inl (some (.int (bI (n = m ∧ alR (fun j => F j == G j) 0 n = true)))), (h, r)) := by
  simp (disch := omega) only [e139, r139_0, r139_1, r139_4, r139_5, r139_8, r139_11, r139_12, r139_13, r139_14, r139_16, r139_17, r139_20, r139_23, r139_24, r139_25, r139_28, r139_29, r139_30, r139_33, r139_34, r139_37, r139_38, r139_39, r139_42, r139_45, r139_46, a1, h1, iI_eq, kl_n, kl_i, kl_r, kl_z, kl_l, kl_d, catS_0, catS_c, cat_i, cat_l, cat_d, cat_r, cat_n, kC_r, kC_x, Option.bind_some, Option.toList_some, Option.toList_none, List.cons_append, List.nil_append, gB0, gB1, gB2, gB3, gB4, rvB, nI_iI, i0, i1, l0_, wr_s, aup_s, and_true, true_and, and_self, eq_self, if_true, if_false, Nat.zero_le, Nat.reduceAdd, Nat.reduceLeDiff, gN_I, gN_L, gN_P, bI_0, bI_ok, z0, z1, Bool.true_eq, Bool.false_eq_true, not_true_eq_false, not_false_eq_true]
  by_cases q : n = m
  · subst q
    rw [if_pos rfl]
    have hl := nlike_loop (d := d) (r := r) a1 a2 h1 h2 hn hF hG n 0 (by omega)
    rw [show ((0 : Nat) : Int) = 0 from rfl] at hl
    rw [hl]
    simp only [true_and]
  · rw [if_neg (by omega)]
    exact fin_F (fun z => q z.1)
/-- the first m of another list, then its own -/
def mixN (F G : Nat → Nat) (m : Nat) : Nat → Nat := fun i => if i < m then G i else F i
theorem ntake_loop {o m : Nat} {G : Nat → Nat} (h1 : h o = some (aB 4 [.ref (o + 1), .int (iI m)])) (h2 : h (o + 1) = some (aL 60 (fun i => lI (G i)))) (hm : m ≤ 60) (n1 : o ≠ a) (n2 : o ≠ a + 1) (n3 : o + 1 ≠ a) :
    ∀ k i : Nat, i + k = m → L (d + 2) 141 10 [some (.ref a), some (.ref o), some (.int (iI i))] [] (nlW h a m (mixN F G i), r) = some (.inl none, (nlW h a m (mixN F G m), r)) := by
  have e2 : nlW h a m F o = h o := nl_o n1 n2
  intro k
  induction k with
  | zero =>
    intro i hi
    have c1 : (m : Int) ≤ i := by omega
    rw [r141_10]
    simp (disch := omega) only [r141_0, r141_1, r141_2, r141_5, r141_8, r141_9, r141_11, r141_12, r141_15, r141_18, r141_19, r141_20, r141_21, r141_22, r141_25, r141_28, r141_31, r141_34, nl_a, iI_le, c1, kl_n, kl_i, kl_r, kl_z, kl_l, kl_d, catS_0, catS_c, cat_i, cat_l, cat_d, cat_r, cat_n, kC_r, kC_x, Option.bind_some, Option.toList_some, Option.toList_none, List.cons_append, List.nil_append, gB0, gB1, gB2, gB3, gB4, rvB, nI_iI, i0, i1, l0_, wr_s, aup_s, and_true, true_and, and_self, eq_self, if_true, if_false, Nat.zero_le, Nat.reduceAdd, Nat.reduceLeDiff, gN_I, gN_L, gN_P, bI_0, bI_ok, z0, z1, Bool.true_eq, Bool.false_eq_true, not_true_eq_false, not_false_eq_true]
    rw [show i = m by omega]
  | succ k ih =>
    intro i hi
    have c1 : ¬ (m : Int) ≤ i := by omega
    have e1 : (i : Int) + 1 = ((i + 1 : Nat) : Int) := by omega
    have e3 : nlW h a m (mixN F G i) o = some (aB 4 [.ref (o + 1), .int (iI m)]) := (nl_o n1 n2).trans h1
    have e4 : nlW h a m (mixN F G i) (o + 1) = some (aL 60 (fun i => lI (G i))) := (nl_o n3 (by omega)).trans h2
    have e5 : upN (mixN F G i) i (G i) = mixN F G (i + 1) := by
      funext j
      unfold upN mixN
      by_cases e : j = i
      · rw [if_pos e, if_pos (by omega), e]
      · rw [if_neg e]
        by_cases e6 : j < i
        · rw [if_pos e6, if_pos (by omega)]
        · rw [if_neg e6, if_neg (by omega)]
    rw [r141_10]
    simp (disch := omega) only [r141_0, r141_1, r141_2, r141_5, r141_8, r141_9, r141_11, r141_12, r141_15, r141_18, r141_19, r141_20, r141_21, r141_22, r141_25, r141_28, r141_31, r141_34, nl_a, e3, iI_le, c1, s_codeAtG e3 e4, s_nput, Int.toNat_natCast, iI_add, e1, e5, ih (i + 1) (by omega), kl_n, kl_i, kl_r, kl_z, kl_l, kl_d, catS_0, catS_c, cat_i, cat_l, cat_d, cat_r, cat_n, kC_r, kC_x, Option.bind_some, Option.toList_some, Option.toList_none, List.cons_append, List.nil_append, gB0, gB1, gB2, gB3, gB4, rvB, nI_iI, i0, i1, l0_, wr_s, aup_s, and_true, true_and, and_self, eq_self, if_true, if_false, Nat.zero_le, Nat.reduceAdd, Nat.reduceLeDiff, gN_I, gN_L, gN_P, bI_0, bI_ok, z0, z1, Bool.true_eq, Bool.false_eq_true, not_true_eq_false, not_false_eq_true]
theorem s_ntake {o m : Nat} {G : Nat → Nat} (h1 : h o = some (aB 4 [.ref (o + 1), .int (iI m)])) (h2 : h (o + 1) = some (aL 60 (fun i => lI (G i)))) (hm : m ≤ 60) (n1 : o ≠ a) (n2 : o ≠ a + 1) (n3 : o + 1 ≠ a) : aE (d + 3) 141 [.ref a, .ref o] (nlW h a n F, r) = some (.inl none, (nlW h a m (mixN F G m), r)) := by
  have e3 : nlW h a n F o = some (aB 4 [.ref (o + 1), .int (iI m)]) := (nl_o n1 n2).trans h1
  have hl := ntake_loop (d := d) (r := r) (F := F) h1 h2 hm n1 n2 n3 m 0 (by omega)
  rw [show mixN F G 0 = F from funext fun i => if_neg (by omega), show ((0 : Nat) : Int) = 0 from rfl] at hl
  simp (disch := omega) only [e141, r141_0, r141_1, r141_2, r141_5, r141_8, r141_9, r141_11, r141_12, r141_15, r141_18, r141_19, r141_20, r141_21, r141_22, r141_25, r141_28, r141_31, r141_34, nl_a, e3, sB1i, nl_ua, hl, kl_n, kl_i, kl_r, kl_z, kl_l, kl_d, catS_0, catS_c, cat_i, cat_l, cat_d, cat_r, cat_n, kC_r, kC_x, Option.bind_some, Option.toList_some, Option.toList_none, List.cons_append, List.nil_append, gB0, gB1, gB2, gB3, gB4, rvB, nI_iI, i0, i1, l0_, wr_s, aup_s, and_true, true_and, and_self, eq_self, if_true, if_false, Nat.zero_le, Nat.reduceAdd, Nat.reduceLeDiff, gN_I, gN_L, gN_P, bI_0, bI_ok, z0, z1, Bool.true_eq, Bool.false_eq_true, not_true_eq_false, not_false_eq_true]
/-- one clash -/
def cl1 (F : Nat → Nat) (i j : Nat) : Nat := if clash (F i) (F j) then 1 else 0
def cl2 (F : Nat → Nat) (n i : Nat) : Nat := sm (fun j => if i < j then cl1 F i j else 0) n
theorem cl1_le (F : Nat → Nat) (i j : Nat) : cl1 F i j ≤ 1 := by
  unfold cl1
  split <;> omega
theorem sm_le {g : Nat → Nat} {b : Nat} (hg : ∀ i, g i ≤ b) : ∀ n, sm g n ≤ n * b
  | 0 => Nat.zero_le _
  | n + 1 => by
    show sm g n + g n ≤ _
    have h1 := sm_le hg n
    have h2 := hg n
    rw [Nat.succ_mul]
    omega
theorem cl2_le (F : Nat → Nat) (n i : Nat) : cl2 F n i ≤ n := by
  have := sm_le (g := fun j => if i < j then cl1 F i j else 0) (b := 1) (fun j => by
    show (if i < j then cl1 F i j else 0) ≤ 1
    split
    · exact cl1_le F i j
    · omega) n
  rw [Nat.mul_one] at this
  exact this
theorem clash_in {l2 : Option Value} {i : Nat} (hn : n ≤ 60) (hi : i < n) (hF : ∀ i, cOk (F i)) : ∀ m j s : Nat, j + m = n → i < j → s + m ≤ 100000 →
    L (d + 3) 150 16 [some (.ref a), some (.int (iI s)), some (.int (iI i)), some (.int (iI j))] [] (nlW h a n F, r) =
      L (d + 3) 150 4 [some (.ref a), some (.int (iI (s + sm (fun j => if i < j then cl1 F i j else 0) n - sm (fun j => if i < j then cl1 F i j else 0) j : Nat))), some (.int (iI (i + 1 : Nat))), some (.int (iI n))] [] (nlW h a n F, r) := by
  intro m
  induction m with
  | zero =>
    intro j s hj hij hs
    have c1 : (n : Int) ≤ j := by omega
    have e1 : (i : Int) + 1 = ((i + 1 : Nat) : Int) := by omega
    rw [r150_16]
    simp (disch := omega) only [r150_0, r150_1, r150_2, r150_3, r150_5, r150_6, r150_9, r150_12, r150_13, r150_14, r150_15, r150_17, r150_18, r150_21, r150_24, r150_25, r150_26, r150_29, r150_30, r150_31, r150_34, r150_37, r150_40, r150_43, r150_46, r150_49, r150_52, r150_55, r150_56, nl_a, iI_le, c1, iI_add, e1, kl_n, kl_i, kl_r, kl_z, kl_l, kl_d, catS_0, catS_c, cat_i, cat_l, cat_d, cat_r, cat_n, kC_r, kC_x, Option.bind_some, Option.toList_some, Option.toList_none, List.cons_append, List.nil_append, gB0, gB1, gB2, gB3, gB4, rvB, nI_iI, i0, i1, l0_, wr_s, aup_s, and_true, true_and, and_self, eq_self, if_true, if_false, Nat.zero_le, Nat.reduceAdd, Nat.reduceLeDiff, gN_I, gN_L, gN_P, bI_0, bI_ok, z0, z1, Bool.true_eq, Bool.false_eq_true, not_true_eq_false, not_false_eq_true]
    rw [show j = n by omega, Nat.add_sub_cancel]
  | succ m ih =>
    intro j s hj hij hs
    have c1 : ¬ (n : Int) ≤ j := by omega
    have e1 : (j : Int) + 1 = ((j + 1 : Nat) : Int) := by omega
    have e2 : (s : Int) + 1 = ((s + 1 : Nat) : Int) := by omega
    have hs1 : sm (fun j => if i < j then cl1 F i j else 0) (j + 1) = sm (fun j => if i < j then cl1 F i j else 0) j + cl1 F i j := by
      show _ + (if i < j then cl1 F i j else 0) = _
      rw [if_pos hij]
    rw [r150_16]
    simp (disch := omega) only [r150_0, r150_1, r150_2, r150_3, r150_5, r150_6, r150_9, r150_12, r150_13, r150_14, r150_15, r150_17, r150_18, r150_21, r150_24, r150_25, r150_26, r150_29, r150_30, r150_31, r150_34, r150_37, r150_40, r150_43, r150_46, r150_49, r150_52, r150_55, r150_56, nl_a, iI_le, c1, s_codeAt, Int.toNat_natCast, s_isClash (hF i) (hF j), iI_add, e1, e2, kl_n, kl_i, kl_r, kl_z, kl_l, kl_d, catS_0, catS_c, cat_i, cat_l, cat_d, cat_r, cat_n, kC_r, kC_x, Option.bind_some, Option.toList_some, Option.toList_none, List.cons_append, List.nil_append, gB0, gB1, gB2, gB3, gB4, rvB, nI_iI, i0, i1, l0_, wr_s, aup_s, and_true, true_and, and_self, eq_self, if_true, if_false, Nat.zero_le, Nat.reduceAdd, Nat.reduceLeDiff, gN_I, gN_L, gN_P, bI_0, bI_ok, z0, z1, Bool.true_eq, Bool.false_eq_true, not_true_eq_false, not_false_eq_true]
    by_cases q : clash (F i) (F j)
    · have q1 : cl1 F i j = 1 := if_pos q
      rw [if_neg (fun z => z q), ih (j + 1) (s + 1) (by omega) (by omega) (by omega), hs1, q1]
      rw [show s + 1 + sm (fun j => if i < j then cl1 F i j else 0) n - (sm (fun j => if i < j then cl1 F i j else 0) j + 1) = s + sm (fun j => if i < j then cl1 F i j else 0) n - sm (fun j => if i < j then cl1 F i j else 0) j by omega]
    · have q1 : cl1 F i j = 0 := if_neg q
      rw [if_pos q, ih (j + 1) s (by omega) (by omega) (by omega), hs1, q1]
      rfl
theorem sm_low {g : Nat → Nat} {k : Nat} (hg : ∀ j, j < k → g j = 0) : sm g k = 0 := by
  induction k with
  | zero => rfl
  | succ k ih =>
    show sm g k + g k = 0
    rw [ih (fun j hj => hg j (by omega)), hg k (by omega)]
theorem clash_out (hn : n ≤ 60) (hF : ∀ i, cOk (F i)) : ∀ m i s : Nat, ∀ l3 : Option Value, i + m = n → s ≤ i * 60 → L (d + 3) 150 4 [some (.ref a), some (.int (iI s)), some (.int (iI i)), l3] [] (nlW h a n F, r) = some (.inl (some (.int (iI (s + sm (cl2 F n) n - sm (cl2 F n) i : Nat)))), (nlW h a n F, r)) := by
  intro m
  induction m with
  | zero =>
    intro i s l3 hi hs
    have c1 : (n : Int) ≤ i := by omega
    rw [r150_4]
    simp (disch := omega) only [r150_0, r150_1, r150_2, r150_3, r150_5, r150_6, r150_9, r150_12, r150_13, r150_14, r150_15, r150_17, r150_18, r150_21, r150_24, r150_25, r150_26, r150_29, r150_30, r150_31, r150_34, r150_37, r150_40, r150_43, r150_46, r150_49, r150_52, r150_55, r150_56, nl_a, iI_le, c1, kl_n, kl_i, kl_r, kl_z, kl_l, kl_d, catS_0, catS_c, cat_i, cat_l, cat_d, cat_r, cat_n, kC_r, kC_x, Option.bind_some, Option.toList_some, Option.toList_none, List.cons_append, List.nil_append, gB0, gB1, gB2, gB3, gB4, rvB, nI_iI, i0, i1, l0_, wr_s, aup_s, and_true, true_and, and_self, eq_self, if_true, if_false, Nat.zero_le, Nat.reduceAdd, Nat.reduceLeDiff, gN_I, gN_L, gN_P, bI_0, bI_ok, z0, z1, Bool.true_eq, Bool.false_eq_true, not_true_eq_false, not_false_eq_true]
    rw [show i = n by omega, Nat.add_sub_cancel]
  | succ m ih =>
    intro i s l3 hi hs
    have c1 : ¬ (n : Int) ≤ i := by omega
    have e1 : (i : Int) + 1 = ((i + 1 : Nat) : Int) := by omega
    have h1 := cl2_le F n i
    have h2 : sm (fun j => if i < j then cl1 F i j else 0) (i + 1) = 0 := sm_low fun j hj => if_neg (by omega)
    have h3 : sm (fun j => if i < j then cl1 F i j else 0) n = cl2 F n i := rfl
    have hin := clash_in (d := d) (a := a) (h := h) (r := r) (l2 := none) hn (show i < n by omega) hF m (i + 1) s (by omega) (by omega) (by omega)
    rw [h2, h3, Nat.sub_zero] at hin
    rw [r150_4]
    simp (disch := omega) only [r150_0, r150_1, r150_2, r150_3, r150_5, r150_6, r150_9, r150_12, r150_13, r150_14, r150_15, r150_17, r150_18, r150_21, r150_24, r150_25, r150_26, r150_29, r150_30, r150_31, r150_34, r150_37, r150_40, r150_43, r150_46, r150_49, r150_52, r150_55, r150_56, nl_a, iI_le, c1, iI_add, e1, hin, kl_n, kl_i, kl_r, kl_z, kl_l, kl_d, catS_0, catS_c, cat_i, cat_l, cat_d, cat_r, cat_n, kC_r, kC_x, Option.bind_some, Option.toList_some, Option.toList_none, List.cons_append, List.nil_append, gB0, gB1, gB2, gB3, gB4, rvB, nI_iI, i0, i1, l0_, wr_s, aup_s, and_true, true_and, and_self, eq_self, if_true, if_false, Nat.zero_le, Nat.reduceAdd, Nat.reduceLeDiff, gN_I, gN_L, gN_P, bI_0, bI_ok, z0, z1, Bool.true_eq, Bool.false_eq_true, not_true_eq_false, not_false_eq_true]
    rw [ih (i + 1) (s + cl2 F n i) _ (by omega) (by omega)]
    rw [show s + cl2 F n i + sm (cl2 F n) n - sm (cl2 F n) (i + 1) = s + sm (cl2 F n) n - sm (cl2 F n) i by
      show s + cl2 F n i + sm (cl2 F n) n - (sm (cl2 F n) i + cl2 F n i) = _
      omega]
theorem s_clashes (hn : n ≤ 60) (hF : ∀ i, cOk (F i)) : aE (d + 4) 150 [.ref a] (nlW h a n F, r) = some (.inl (some (.int (iI (sm (cl2 F n) n)))), (nlW h a n F, r)) := by
  have hl := clash_out (d := d) (a := a) (h := h) (r := r) hn hF n 0 0 none (by omega) (by omega)
  rw [show ((0 : Nat) : Int) = 0 from rfl, show 0 + sm (cl2 F n) n - sm (cl2 F n) 0 = sm (cl2 F n) n from by show 0 + sm (cl2 F n) n - 0 = _; omega] at hl
  simp only [e150, r150_0, r150_1, r150_2, r150_3, r150_5, r150_6, r150_9, r150_12, r150_13, r150_14, r150_15, r150_17, r150_18, r150_21, r150_24, r150_25, r150_26, r150_29, r150_30, r150_31, r150_34, r150_37, r150_40, r150_43, r150_46, r150_49, r150_52, r150_55, r150_56, hl, kl_n, kl_i, kl_r, kl_z, kl_l, kl_d, catS_0, catS_c, cat_i, cat_l, cat_d, cat_r, cat_n, kC_r, kC_x, Option.bind_some, Option.toList_some, Option.toList_none, List.cons_append, List.nil_append, gB0, gB1, gB2, gB3, gB4, rvB, nI_iI, i0, i1, l0_, wr_s, aup_s, and_true, true_and, and_self, eq_self, if_true, if_false, Nat.zero_le, Nat.reduceAdd, Nat.reduceLeDiff, gN_I, gN_L, gN_P, bI_0, bI_ok, z0, z1, Bool.true_eq, Bool.false_eq_true, not_true_eq_false, not_false_eq_true]
end
/-! events: tick, on or off, track, pitch, force -/
def vO (t o k p f : Nat) : Nat := t * 262144 + o * 131072 + k * 16384 + p * 128 + f
def vOk (c : Nat) : Prop := c < 1099511627776
section
variable {d : Nat} {h : aHf} {r : Nat × Nat × Nat × Nat}
theorem s_evOf {t k p f : Nat} {o : Prop} [Decidable o] (ht : t < 4194304) (hk : k < 8) (hp : p < 128) (hf : f < 128) : aE (d + 1) 100 [.int (iI t), .int (bI o), .int (iI k), .int (iI p), .int (iI f)] (h, r) = some (.inl (some (.long (lI (vO t (if o then 1 else 0) k p f)))), (h, r)) := by
  have key : ∀ x : Nat, x ≤ 1 → lI ((t : Int) * 262144) ||| lI ((x : Int) * 131072) ||| lI ((k : Int) * 16384) ||| lI ((p : Int) * 128) ||| lI (f : Int) = lI (vO t x k p f) := by
    intro x hx
    rw [lor18 (a := t) (b := x * 131072) (by omega) (by omega) (by omega) (by omega)]
    rw [show (t : Int) * 262144 + x * 131072 = (t * 2 + x) * 131072 by omega]
    rw [lor17 (a := t * 2 + x) (b := k * 16384) (by omega) (by omega) (by omega) (by omega)]
    rw [show ((t : Int) * 2 + x) * 131072 + k * 16384 = ((t * 2 + x) * 8 + k) * 16384 by omega]
    rw [lor14 (a := (t * 2 + x) * 8 + k) (b := p * 128) (by omega) (by omega) (by omega) (by omega)]
    rw [show (((t : Int) * 2 + x) * 8 + k) * 16384 + p * 128 = (((t * 2 + x) * 8 + k) * 128 + p) * 128 by omega]
    rw [lor7 (a := ((t * 2 + x) * 8 + k) * 128 + p) (b := f) (by omega) (by omega) (by omega) (by omega)]
    rw [show ((((t : Int) * 2 + x) * 8 + k) * 128 + p) * 128 + f = ((vO t x k p f : Nat) : Int) by unfold vO; omega]
  have k1 := key 1 (by omega)
  have k0 := key 0 (by omega)
  rw [show ((1 : Nat) : Int) * 131072 = 1 * 131072 from rfl] at k1
  rw [show ((0 : Nat) : Int) * 131072 = 0 * 131072 from rfl] at k0
  simp (disch := omega) only [e100, r100_0, r100_1, r100_2, r100_4, r100_5, r100_6, r100_9, r100_10, r100_13, r100_14, r100_16, r100_17, r100_18, r100_19, r100_20, r100_22, r100_23, r100_24, r100_25, r100_26, r100_28, r100_29, r100_30, r100_32, r100_33, r100_34, i_l, lshm18, lshm17, lshm14, lshm7, kl_n, kl_i, kl_r, kl_z, kl_l, kl_d, catS_0, catS_c, cat_i, cat_l, cat_d, cat_r, cat_n, kC_r, kC_x, Option.bind_some, Option.toList_some, Option.toList_none, List.cons_append, List.nil_append, gB0, gB1, gB2, gB3, gB4, rvB, nI_iI, i0, i1, l0_, wr_s, aup_s, and_true, true_and, and_self, eq_self, if_true, if_false, Nat.zero_le, Nat.reduceAdd, Nat.reduceLeDiff, gN_I, gN_L, gN_P, bI_0, bI_ok, z0, z1, Bool.true_eq, Bool.false_eq_true, not_true_eq_false, not_false_eq_true]
  by_cases q : o
  · rw [if_neg (fun z => z q), if_pos q, k1]
  · rw [if_pos q, if_neg q, k0]
theorem s_evTick {c : Nat} (hc : vOk c) : aE (d + 1) 101 [.long (lI c)] (h, r) = some (.inl (some (.int (iI (c / 262144 : Nat)))), (h, r)) := by
  unfold vOk at hc
  simp (disch := omega) only [e101, r101_0, r101_1, r101_3, r101_4, r101_5, lshr18, l_i, kl_n, kl_i, kl_r, kl_z, kl_l, kl_d, catS_0, catS_c, cat_i, cat_l, cat_d, cat_r, cat_n, kC_r, kC_x, Option.bind_some, Option.toList_some, Option.toList_none, List.cons_append, List.nil_append, gB0, gB1, gB2, gB3, gB4, rvB, nI_iI, i0, i1, l0_, wr_s, aup_s, and_true, true_and, and_self, eq_self, if_true, if_false, Nat.zero_le, Nat.reduceAdd, Nat.reduceLeDiff, gN_I, gN_L, gN_P, bI_0, bI_ok, z0, z1, Bool.true_eq, Bool.false_eq_true, not_true_eq_false, not_false_eq_true]
  rw [show (c : Int) / 262144 = ((c / 262144 : Nat) : Int) by omega]
theorem s_evOn {c : Nat} (hc : vOk c) : aE (d + 1) 102 [.long (lI c)] (h, r) = some (.inl (some (.int (bI (c / 131072 % 2 = 1)))), (h, r)) := by
  unfold vOk at hc
  simp (disch := omega) only [e102, r102_0, r102_1, r102_3, r102_4, r102_5, r102_6, r102_7, r102_8, r102_11, r102_12, r102_15, r102_16, lshr17, land1, lc_eq, lI_eq, kl_n, kl_i, kl_r, kl_z, kl_l, kl_d, catS_0, catS_c, cat_i, cat_l, cat_d, cat_r, cat_n, kC_r, kC_x, Option.bind_some, Option.toList_some, Option.toList_none, List.cons_append, List.nil_append, gB0, gB1, gB2, gB3, gB4, rvB, nI_iI, i0, i1, l0_, wr_s, aup_s, and_true, true_and, and_self, eq_self, if_true, if_false, Nat.zero_le, Nat.reduceAdd, Nat.reduceLeDiff, gN_I, gN_L, gN_P, bI_0, bI_ok, z0, z1, Bool.true_eq, Bool.false_eq_true, not_true_eq_false, not_false_eq_true]
  split
  · exact fin_T (by omega)
  · exact fin_F (by omega)
theorem s_evForce {c : Nat} (hc : vOk c) : aE (d + 1) 103 [.long (lI c)] (h, r) = some (.inl (some (.int (iI (c % 128 : Nat)))), (h, r)) := by
  unfold vOk at hc
  simp (disch := omega) only [e103, r103_0, r103_1, r103_2, r103_4, r103_5, l_i, iand127, kl_n, kl_i, kl_r, kl_z, kl_l, kl_d, catS_0, catS_c, cat_i, cat_l, cat_d, cat_r, cat_n, kC_r, kC_x, Option.bind_some, Option.toList_some, Option.toList_none, List.cons_append, List.nil_append, gB0, gB1, gB2, gB3, gB4, rvB, nI_iI, i0, i1, l0_, wr_s, aup_s, and_true, true_and, and_self, eq_self, if_true, if_false, Nat.zero_le, Nat.reduceAdd, Nat.reduceLeDiff, gN_I, gN_L, gN_P, bI_0, bI_ok, z0, z1, Bool.true_eq, Bool.false_eq_true, not_true_eq_false, not_false_eq_true]
  rw [show (c : Int) % 128 = ((c % 128 : Nat) : Int) by omega]
def vFact (c : Nat) : Nat → Nat
  | 0 => c / 262144
  | 1 => c / 16384 % 8
  | 2 => c / 128 % 128
  | _ => if c / 131072 % 2 = 1 then c % 128 else 0
theorem s_evFact {c w : Nat} (hc : vOk c) (hw : w ≤ 3) : aE (d + 2) 104 [.long (lI c), .int (iI w)] (h, r) = some (.inl (some (.int (iI (vFact c w)))), (h, r)) := by
  have hc' := hc
  unfold vOk at hc'
  match w, hw with
  | 0, _ =>
    show aE (d + 2) 104 [.long (lI c), .int (iI 0)] (h, r) = _
    simp only [e104, r104_0, r104_1c0, r104_1c1, r104_1c2, r104_1d, r104_28, r104_29, r104_32, r104_33, r104_34, r104_36, r104_37, r104_38, r104_40, r104_41, r104_42, r104_43, r104_45, r104_46, r104_47, r104_49, r104_50, r104_51, r104_52, r104_55, r104_58, r104_59, r104_62, r104_65, r104_66, s_evTick hc, vFact, kl_n, kl_i, kl_r, kl_z, kl_l, kl_d, catS_0, catS_c, cat_i, cat_l, cat_d, cat_r, cat_n, kC_r, kC_x, Option.bind_some, Option.toList_some, Option.toList_none, List.cons_append, List.nil_append, gB0, gB1, gB2, gB3, gB4, rvB, nI_iI, i0, i1, l0_, wr_s, aup_s, and_true, true_and, and_self, eq_self, if_true, if_false, Nat.zero_le, Nat.reduceAdd, Nat.reduceLeDiff, gN_I, gN_L, gN_P, bI_0, bI_ok, z0, z1, Bool.true_eq, Bool.false_eq_true, not_true_eq_false, not_false_eq_true]
  | 1, _ =>
    show aE (d + 2) 104 [.long (lI c), .int (iI 1)] (h, r) = _
    simp (disch := omega) only [e104, r104_0, r104_1c0, r104_1c1, r104_1c2, r104_1d, r104_28, r104_29, r104_32, r104_33, r104_34, r104_36, r104_37, r104_38, r104_40, r104_41, r104_42, r104_43, r104_45, r104_46, r104_47, r104_49, r104_50, r104_51, r104_52, r104_55, r104_58, r104_59, r104_62, r104_65, r104_66, lshr14, l_i, iand7, vFact, kl_n, kl_i, kl_r, kl_z, kl_l, kl_d, catS_0, catS_c, cat_i, cat_l, cat_d, cat_r, cat_n, kC_r, kC_x, Option.bind_some, Option.toList_some, Option.toList_none, List.cons_append, List.nil_append, gB0, gB1, gB2, gB3, gB4, rvB, nI_iI, i0, i1, l0_, wr_s, aup_s, and_true, true_and, and_self, eq_self, if_true, if_false, Nat.zero_le, Nat.reduceAdd, Nat.reduceLeDiff, gN_I, gN_L, gN_P, bI_0, bI_ok, z0, z1, Bool.true_eq, Bool.false_eq_true, not_true_eq_false, not_false_eq_true]
    rw [show (c : Int) / 16384 % 8 = ((c / 16384 % 8 : Nat) : Int) by omega]
  | 2, _ =>
    show aE (d + 2) 104 [.long (lI c), .int (iI 2)] (h, r) = _
    simp (disch := omega) only [e104, r104_0, r104_1c0, r104_1c1, r104_1c2, r104_1d, r104_28, r104_29, r104_32, r104_33, r104_34, r104_36, r104_37, r104_38, r104_40, r104_41, r104_42, r104_43, r104_45, r104_46, r104_47, r104_49, r104_50, r104_51, r104_52, r104_55, r104_58, r104_59, r104_62, r104_65, r104_66, lshr7, l_i, iand127, vFact, kl_n, kl_i, kl_r, kl_z, kl_l, kl_d, catS_0, catS_c, cat_i, cat_l, cat_d, cat_r, cat_n, kC_r, kC_x, Option.bind_some, Option.toList_some, Option.toList_none, List.cons_append, List.nil_append, gB0, gB1, gB2, gB3, gB4, rvB, nI_iI, i0, i1, l0_, wr_s, aup_s, and_true, true_and, and_self, eq_self, if_true, if_false, Nat.zero_le, Nat.reduceAdd, Nat.reduceLeDiff, gN_I, gN_L, gN_P, bI_0, bI_ok, z0, z1, Bool.true_eq, Bool.false_eq_true, not_true_eq_false, not_false_eq_true]
    rw [show (c : Int) / 128 % 128 = ((c / 128 % 128 : Nat) : Int) by omega]
  | 3, _ =>
    show aE (d + 2) 104 [.long (lI c), .int (iI 3)] (h, r) = _
    simp only [e104, r104_0, r104_1d (show (iI 3).toInt < 0 ∨ 2 < (iI 3).toInt by decide), r104_0, r104_1c0, r104_1c1, r104_1c2, r104_1d, r104_28, r104_29, r104_32, r104_33, r104_34, r104_36, r104_37, r104_38, r104_40, r104_41, r104_42, r104_43, r104_45, r104_46, r104_47, r104_49, r104_50, r104_51, r104_52, r104_55, r104_58, r104_59, r104_62, r104_65, r104_66, s_evOn hc, s_evForce hc, vFact, kl_n, kl_i, kl_r, kl_z, kl_l, kl_d, catS_0, catS_c, cat_i, cat_l, cat_d, cat_r, cat_n, kC_r, kC_x, Option.bind_some, Option.toList_some, Option.toList_none, List.cons_append, List.nil_append, gB0, gB1, gB2, gB3, gB4, rvB, nI_iI, i0, i1, l0_, wr_s, aup_s, and_true, true_and, and_self, eq_self, if_true, if_false, Nat.zero_le, Nat.reduceAdd, Nat.reduceLeDiff, gN_I, gN_L, gN_P, bI_0, bI_ok, z0, z1, Bool.true_eq, Bool.false_eq_true, not_true_eq_false, not_false_eq_true]
    by_cases q : c / 131072 % 2 = 1
    · rw [if_neg (fun z => z q), if_pos q]
    · rw [if_pos q, if_neg q]
      rfl
end
