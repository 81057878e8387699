/-! ===== the class's list of notes: at a, its row at a + 1 ===== -/
def nlW (h : aHf) (a n : Nat) (F : Nat → Nat) : aHf := fun q => if q = a then some (aB 4 [.ref (a + 1), .int (iI n)]) else if q = a + 1 then some (aL 60 (fun i => lI (F i))) else h q
def upN (F : Nat → Nat) (k c : Nat) : Nat → Nat := fun i => if i = k then c else F i
section
variable {d a n : Nat} {h : aHf} {r : Nat × Nat × Nat × Nat} {F : Nat → Nat}
theorem nl_a : nlW h a n F a = some (aB 4 [.ref (a + 1), .int (iI n)]) := if_pos rfl
theorem nl_c : nlW h a n F (a + 1) = some (aL 60 (fun i => lI (F i))) := by
  unfold nlW
  rw [if_neg (by omega), if_pos rfl]
theorem nl_o {q : Nat} (h1 : q ≠ a) (h2 : q ≠ a + 1) : nlW h a n F q = h q := by
  unfold nlW
  rw [if_neg h1, if_neg h2]
theorem nl_ua {m : Nat} : aup (nlW h a n F) a (aB 4 [.ref (a + 1), .int (iI m)]) = nlW h a m F := by
  funext q
  unfold aup nlW
  by_cases e : q = a
  · rw [if_pos e, if_pos e]
  · rw [if_neg e, if_neg e, if_neg e]
theorem nl_uc {G : Nat → Nat} : aup (nlW h a n F) (a + 1) (aL 60 (fun i => lI (G i))) = nlW h a n G := by
  funext q
  unfold aup nlW
  by_cases e : q = a
  · rw [if_pos e, if_pos e, if_neg (by omega)]
  · rw [if_neg e, if_neg e]
    by_cases e2 : q = a + 1
    · rw [if_pos e2, if_pos e2]
    · rw [if_neg e2, if_neg e2, if_neg e2]
theorem nl_id (h1 : h a = some (aB 4 [.ref (a + 1), .int (iI n)])) (h2 : h (a + 1) = some (aL 60 (fun i => lI (F i)))) : nlW h a n F = h := by
  funext q
  unfold nlW
  by_cases e : q = a
  · rw [if_pos e, e, h1]
  · rw [if_neg e]
    by_cases e2 : q = a + 1
    · rw [if_pos e2, e2, h2]
    · rw [if_neg e2]
theorem updL_N {k c : Nat} : vp_updL (fun i => lI (F i)) k (lI c) = fun i => lI (upN F k c i) := by
  funext i
  unfold vp_updL upN
  by_cases e : i = k
  · rw [if_pos e, if_pos e]
  · rw [if_neg e, if_neg e]
theorem s_codeAt {j : Int} (h1 : 0 ≤ j) (h2 : j < 60) : aE (d + 2) 138 [.ref a, .int (iI j)] (nlW h a n F, r) = some (.inl (some (.long (lI (F j.toNat)))), (nlW h a n F, r)) := by
  simp only [e138, r138_0, r138_1, r138_4, r138_5, r138_8, nl_a, s_longAt nl_c h1 h2 (by decide), kl_n, kl_i, kl_r, kl_z, kl_l, kl_d, catS_0, catS_c, cat_i, cat_l, cat_d, cat_r, cat_n, kC_r, kC_x, Option.bind_some, Option.toList_some, Option.toList_none, List.cons_append, List.nil_append, gB0, gB1, gB2, gB3, gB4, rvB, nI_iI, i0, i1, l0_, wr_s, aup_s, and_true, true_and, and_self, eq_self, if_true, if_false, Nat.zero_le, Nat.reduceAdd, Nat.reduceLeDiff, gN_I, gN_L, gN_P, bI_0, bI_ok, z0, z1, Bool.true_eq, Bool.false_eq_true, not_true_eq_false, not_false_eq_true]
theorem s_nput {j : Int} {c : Nat} (h1 : 0 ≤ j) (h2 : j < 60) : aE (d + 2) 140 [.ref a, .int (iI j), .long (lI c)] (nlW h a n F, r) = some (.inl none, (nlW h a n (upN F j.toNat c), r)) := by
  simp only [e140, r140_0, r140_1, r140_4, r140_5, r140_6, r140_9, nl_a, s_putLong nl_c h1 h2 (by decide), updL_N, nl_uc, kl_n, kl_i, kl_r, kl_z, kl_l, kl_d, catS_0, catS_c, cat_i, cat_l, cat_d, cat_r, cat_n, kC_r, kC_x, Option.bind_some, Option.toList_some, Option.toList_none, List.cons_append, List.nil_append, gB0, gB1, gB2, gB3, gB4, rvB, nI_iI, i0, i1, l0_, wr_s, aup_s, and_true, true_and, and_self, eq_self, if_true, if_false, Nat.zero_le, Nat.reduceAdd, Nat.reduceLeDiff, gN_I, gN_L, gN_P, bI_0, bI_ok, z0, z1, Bool.true_eq, Bool.false_eq_true, not_true_eq_false, not_false_eq_true]
theorem s_nsize : aE (d + 1) 142 [.ref a] (nlW h a n F, r) = some (.inl (some (.int (iI n))), (nlW h a n F, r)) := by
  simp only [e142, r142_0, r142_1, r142_4, nl_a, kl_n, kl_i, kl_r, kl_z, kl_l, kl_d, catS_0, catS_c, cat_i, cat_l, cat_d, cat_r, cat_n, kC_r, kC_x, Option.bind_some, Option.toList_some, Option.toList_none, List.cons_append, List.nil_append, gB0, gB1, gB2, gB3, gB4, rvB, nI_iI, i0, i1, l0_, wr_s, aup_s, and_true, true_and, and_self, eq_self, if_true, if_false, Nat.zero_le, Nat.reduceAdd, Nat.reduceLeDiff, gN_I, gN_L, gN_P, bI_0, bI_ok, z0, z1, Bool.true_eq, Bool.false_eq_true, not_true_eq_false, not_false_eq_true]
theorem s_room : aE (d + 1) 143 [.ref a] (nlW h a n F, r) = some (.inl (some (.int (iI (60 - n)))), (nlW h a n F, r)) := by
  simp only [e143, r143_0, r143_1, r143_4, r143_5, r143_6, r143_9, r143_10, nl_a, nl_c, iI_sub, kl_n, kl_i, kl_r, kl_z, kl_l, kl_d, catS_0, catS_c, cat_i, cat_l, cat_d, cat_r, cat_n, kC_r, kC_x, Option.bind_some, Option.toList_some, Option.toList_none, List.cons_append, List.nil_append, gB0, gB1, gB2, gB3, gB4, rvB, nI_iI, i0, i1, l0_, wr_s, aup_s, and_true, true_and, and_self, eq_self, if_true, if_false, Nat.zero_le, Nat.reduceAdd, Nat.reduceLeDiff, gN_I, gN_L, gN_P, bI_0, bI_ok, z0, z1, Bool.true_eq, Bool.false_eq_true, not_true_eq_false, not_false_eq_true]
  rfl
theorem s_has {p : Int} (h1 : -2147483648 ≤ p) (h2 : p < 2147483648) (hn : n ≤ 60) : aE (d + 1) 144 [.ref a, .int (iI p)] (nlW h a n F, r) = some (.inl (some (.int (bI (0 ≤ p ∧ p < n)))), (nlW h a n F, r)) := by
  simp (disch := omega) only [e144, r144_0, r144_1, r144_4, r144_5, r144_6, r144_9, r144_12, r144_13, r144_16, r144_17, nl_a, iI_lt, iI_le, kl_n, kl_i, kl_r, kl_z, kl_l, kl_d, catS_0, catS_c, cat_i, cat_l, cat_d, cat_r, cat_n, kC_r, kC_x, Option.bind_some, Option.toList_some, Option.toList_none, List.cons_append, List.nil_append, gB0, gB1, gB2, gB3, gB4, rvB, nI_iI, i0, i1, l0_, wr_s, aup_s, and_true, true_and, and_self, eq_self, if_true, if_false, Nat.zero_le, Nat.reduceAdd, Nat.reduceLeDiff, gN_I, gN_L, gN_P, bI_0, bI_ok, z0, z1, Bool.true_eq, Bool.false_eq_true, not_true_eq_false, not_false_eq_true]
  by_cases q : 0 ≤ p ∧ p < n
  · rw [← bI_T q, if_neg (by omega), if_neg (by omega)]
  · rw [← bI_F q]
    split
    · rfl
    · rw [if_pos (by omega)]
theorem s_clear : aE (d + 1) 148 [.ref a] (nlW h a n F, r) = some (.inl none, (nlW h a 0 F, r)) := by
  simp only [e148, r148_0, r148_1, r148_2, r148_5, nl_a, sB1i, nl_ua (m := 0) (n := n) (F := F) (a := a) (h := h), kl_n, kl_i, kl_r, kl_z, kl_l, kl_d, catS_0, catS_c, cat_i, cat_l, cat_d, cat_r, cat_n, kC_r, kC_x, Option.bind_some, Option.toList_some, Option.toList_none, List.cons_append, List.nil_append, gB0, gB1, gB2, gB3, gB4, rvB, nI_iI, i0, i1, l0_, wr_s, aup_s, and_true, true_and, and_self, eq_self, if_true, if_false, Nat.zero_le, Nat.reduceAdd, Nat.reduceLeDiff, gN_I, gN_L, gN_P, bI_0, bI_ok, z0, z1, Bool.true_eq, Bool.false_eq_true, not_true_eq_false, not_false_eq_true]
  exact congrArg (fun x => some ((.inl none : aO), (x, r))) (nl_ua (m := 0))
end
/-! where a note sinks to -/
def sk (F : Nat → Nat) (c : Nat) : Nat → Nat
  | 0 => 0
  | k + 1 => if c < F k then sk F c k else k + 1
theorem sk_le (F : Nat → Nat) (c : Nat) : ∀ k, sk F c k ≤ k
  | 0 => Nat.le_refl 0
  | k + 1 => by
    unfold sk
    split
    · exact Nat.le_succ_of_le (sk_le F c k)
    · exact Nat.le_refl _
/-- those from q to k - 1 one place further -/
def shN (F : Nat → Nat) (q k : Nat) : Nat → Nat := fun i => if q < i ∧ i ≤ k then F (i - 1) else F i
def insN (F : Nat → Nat) (p k c : Nat) : Nat → Nat := fun i => if i = p then c else if p < i ∧ i ≤ k then F (i - 1) else F i
theorem shN_0 (F : Nat → Nat) (k : Nat) : shN F k k = F := by
  funext i
  unfold shN
  rw [if_neg (by omega)]
theorem shN_s (F : Nat → Nat) {q k : Nat} (hq : q < k) : upN (shN F (q + 1) k) (q + 1) (F q) = shN F q k := by
  funext i
  unfold upN shN
  by_cases e : i = q + 1
  · rw [if_pos e, if_pos (by omega), e]
    rfl
  · rw [if_neg e]
    by_cases e2 : q + 1 < i ∧ i ≤ k
    · rw [if_pos e2, if_pos (by omega)]
    · rw [if_neg e2, if_neg (by omega)]
theorem shN_at (F : Nat → Nat) (q k : Nat) : shN F (q + 1) k q = F q := by
  unfold shN
  rw [if_neg (by omega)]
theorem shN_ins (F : Nat → Nat) (p k c : Nat) : upN (shN F p k) p c = insN F p k c := rfl
section
variable {d a n : Nat} {h : aHf} {r : Nat × Nat × Nat × Nat} {F : Nat → Nat}
theorem sink_loop {k c : Nat} {l1 : Option Value} (hk : k < 60) (hc : cOk c) (hF : ∀ i, cOk (F i)) : ∀ q : Nat, q ≤ k → L (d + 2) 145 9 [some (.ref a), l1, some (.long (lI c)), none, some (.int (iI q))] [] (nlW h a n (shN F q k), r) =
    some (.inl (some (.int (iI (sk F c q)))), (nlW h a n (insN F (sk F c q) k c), r)) := by
  intro q
  unfold cOk at hc
  induction q with
  | zero =>
    intro _
    have c1 : ((0 : Nat) : Int) ≤ 0 := by omega
    rw [r145_9]
    simp (disch := omega) only [r145_0, r145_1, r145_2, r145_5, r145_6, r145_7, r145_11, r145_14, r145_15, r145_17, r145_18, r145_19, r145_22, r145_23, r145_24, r145_27, r145_28, r145_30, r145_31, r145_33, r145_34, r145_35, r145_38, r145_41, r145_44, r145_47, r145_48, r145_50, r145_51, r145_54, r145_56, iI_le, c1, s_nput, nl_a, Int.toNat_natCast, shN_ins, kl_n, kl_i, kl_r, kl_z, kl_l, kl_d, catS_0, catS_c, cat_i, cat_l, cat_d, cat_r, cat_n, kC_r, kC_x, Option.bind_some, Option.toList_some, Option.toList_none, List.cons_append, List.nil_append, gB0, gB1, gB2, gB3, gB4, rvB, nI_iI, i0, i1, l0_, wr_s, aup_s, and_true, true_and, and_self, eq_self, if_true, if_false, Nat.zero_le, Nat.reduceAdd, Nat.reduceLeDiff, gN_I, gN_L, gN_P, bI_0, bI_ok, z0, z1, Bool.true_eq, Bool.false_eq_true, not_true_eq_false, not_false_eq_true]
    rfl
  | succ q ih =>
    intro hq
    have c1 : ¬ ((q + 1 : Nat) : Int) ≤ 0 := by omega
    have e1 : ((q + 1 : Nat) : Int) - 1 = q := by omega
    have e2 : ((q + 1 : Nat) : Int) + -1 = q := by omega
    have hb := hF q
    unfold cOk at hb
    rw [r145_9]
    simp (disch := omega) only [r145_0, r145_1, r145_2, r145_5, r145_6, r145_7, r145_11, r145_14, r145_15, r145_17, r145_18, r145_19, r145_22, r145_23, r145_24, r145_27, r145_28, r145_30, r145_31, r145_33, r145_34, r145_35, r145_38, r145_41, r145_44, r145_47, r145_48, r145_50, r145_51, r145_54, r145_56, iI_le, c1, iI_sub, iI_add, e1, e2, s_codeAt, s_nput, nl_a, Int.toNat_natCast, lc_le, lI_le, shN_at, kl_n, kl_i, kl_r, kl_z, kl_l, kl_d, catS_0, catS_c, cat_i, cat_l, cat_d, cat_r, cat_n, kC_r, kC_x, Option.bind_some, Option.toList_some, Option.toList_none, List.cons_append, List.nil_append, gB0, gB1, gB2, gB3, gB4, rvB, nI_iI, i0, i1, l0_, wr_s, aup_s, and_true, true_and, and_self, eq_self, if_true, if_false, Nat.zero_le, Nat.reduceAdd, Nat.reduceLeDiff, gN_I, gN_L, gN_P, bI_0, bI_ok, z0, z1, Bool.true_eq, Bool.false_eq_true, not_true_eq_false, not_false_eq_true]
    by_cases q9 : c < F q
    · rw [if_neg (by omega), shN_s F (by omega), ih (by omega), show sk F c (q + 1) = sk F c q from if_pos q9]
    · rw [if_pos (by omega), shN_ins, show sk F c (q + 1) = q + 1 from if_neg q9]
theorem s_sink {k : Nat} (hk : k < 60) (hF : ∀ i, cOk (F i)) : aE (d + 3) 145 [.ref a, .int (iI k)] (nlW h a n F, r) = some (.inl (some (.int (iI (sk F (F k) k)))), (nlW h a n (insN F (sk F (F k) k) k (F k)), r)) := by
  have hl := sink_loop (d := d) (a := a) (n := n) (h := h) (r := r) (F := F) (c := F k) (l1 := some (.int (iI k))) hk (hF k) hF k (Nat.le_refl k)
  rw [shN_0] at hl
  simp (disch := omega) only [e145, r145_0, r145_1, r145_2, r145_5, r145_6, r145_7, r145_11, r145_14, r145_15, r145_17, r145_18, r145_19, r145_22, r145_23, r145_24, r145_27, r145_28, r145_30, r145_31, r145_33, r145_34, r145_35, r145_38, r145_41, r145_44, r145_47, r145_48, r145_50, r145_51, r145_54, r145_56, s_codeAt, nl_a, Int.toNat_natCast, hl, kl_n, kl_i, kl_r, kl_z, kl_l, kl_d, catS_0, catS_c, cat_i, cat_l, cat_d, cat_r, cat_n, kC_r, kC_x, Option.bind_some, Option.toList_some, Option.toList_none, List.cons_append, List.nil_append, gB0, gB1, gB2, gB3, gB4, rvB, nI_iI, i0, i1, l0_, wr_s, aup_s, and_true, true_and, and_self, eq_self, if_true, if_false, Nat.zero_le, Nat.reduceAdd, Nat.reduceLeDiff, gN_I, gN_L, gN_P, bI_0, bI_ok, z0, z1, Bool.true_eq, Bool.false_eq_true, not_true_eq_false, not_false_eq_true]
theorem s_insert {c : Nat} (hn : n < 60) (hc : cOk c) (hF : ∀ i, cOk (F i)) : aE (d + 4) 146 [.ref a, .long (lI c)] (nlW h a n F, r) = some (.inl (some (.int (iI (sk F c n)))), (nlW h a (n + 1) (insN F (sk F c n) n c), r)) := by
  have e1 : (n : Int) + 1 = ((n + 1 : Nat) : Int) := by omega
  have e2 : ((n + 1 : Nat) : Int) - 1 = n := by omega
  have c1 : (1 : Int) ≤ 60 - n := by omega
  have hF2 : ∀ i, cOk (upN F n c i) := fun i => by
    unfold upN
    split
    · exact hc
    · exact hF i
  have h3 : sk (upN F n c) (upN F n c n) n = sk F c n := by
    have e9 : upN F n c n = c := if_pos rfl
    rw [e9]
    have : ∀ k, k ≤ n → sk (upN F n c) c k = sk F c k := by
      intro k
      induction k with
      | zero => intro _; rfl
      | succ k ih =>
        intro hk
        unfold sk
        rw [ih (by omega), show upN F n c k = F k from if_neg (by omega)]
    exact this n (Nat.le_refl n)
  have h4 : insN (upN F n c) (sk F c n) n (upN F n c n) = insN F (sk F c n) n c := by
    have hle := sk_le F c n
    have e9 : upN F n c n = c := if_pos rfl
    rw [e9]
    funext i
    unfold insN upN
    by_cases e : i = sk F c n
    · rw [if_pos e, if_pos e]
    · rw [if_neg e, if_neg e]
      by_cases e3 : sk F c n < i ∧ i ≤ n
      · rw [if_pos e3, if_pos e3, if_neg (by omega)]
      · rw [if_neg e3, if_neg e3, if_neg (by omega)]
  simp (disch := omega) only [e146, r146_0, r146_1, r146_4, r146_5, r146_8, r146_9, r146_10, r146_11, r146_12, r146_15, r146_16, r146_19, r146_20i, r146_20, r146_21, r146_24, r146_25, r146_26, r146_29, r146_30, r146_31, r146_34, r146_35, r146_36, r146_39, nl_a, s_room, iI_le, c1, s_nput, Int.toNat_natCast, iI_add, e1, e2, sB1i, nl_ua, iI_sub, s_sink (show n < 60 from hn) hF2, h3, h4, kl_n, kl_i, kl_r, kl_z, kl_l, kl_d, catS_0, catS_c, cat_i, cat_l, cat_d, cat_r, cat_n, kC_r, kC_x, Option.bind_some, Option.toList_some, Option.toList_none, List.cons_append, List.nil_append, gB0, gB1, gB2, gB3, gB4, rvB, nI_iI, i0, i1, l0_, wr_s, aup_s, and_true, true_and, and_self, eq_self, if_true, if_false, Nat.zero_le, Nat.reduceAdd, Nat.reduceLeDiff, gN_I, gN_L, gN_P, bI_0, bI_ok, z0, z1, Bool.true_eq, Bool.false_eq_true, not_true_eq_false, not_false_eq_true]
end
/-! those behind a place one place nearer -/
def dlN (F : Nat → Nat) (p k : Nat) : Nat → Nat := fun i => if p ≤ i ∧ i < k then F (i + 1) else F i
theorem dlN_0 (F : Nat → Nat) (p : Nat) : dlN F p p = F := by
  funext i
  unfold dlN
  rw [if_neg (by omega)]
theorem dlN_s (F : Nat → Nat) {p k : Nat} (hk : p ≤ k) : upN (dlN F p k) k (F (k + 1)) = dlN F p (k + 1) := by
  funext i
  unfold upN dlN
  by_cases e : i = k
  · rw [if_pos e, if_pos (by omega), e]
  · rw [if_neg e]
    by_cases e2 : p ≤ i ∧ i < k
    · rw [if_pos e2, if_pos (by omega)]
    · rw [if_neg e2, if_neg (by omega)]
theorem dlN_at (F : Nat → Nat) (p k : Nat) : dlN F p k (k + 1) = F (k + 1) := by
  unfold dlN
  rw [if_neg (by omega)]
/-- all notes sunk, one after another -/
def srtN (F : Nat → Nat) : Nat → Nat → Nat
  | 0 => F
  | k + 1 => insN (srtN F k) (sk (srtN F k) (srtN F k k) k) k (srtN F k k)
theorem srtN_1 (F : Nat → Nat) : srtN F 1 = F := by
  funext i
  show insN F (sk F (F 0) 0) 0 (F 0) i = F i
  unfold insN sk
  by_cases e : i = 0
  · rw [if_pos e, e]
  · rw [if_neg e, if_neg (by omega)]
theorem insN_ok {F : Nat → Nat} {p k c : Nat} {P : Nat → Prop} (hc : P c) (hF : ∀ i, P (F i)) : ∀ i, P (insN F p k c i) := fun i => by
  unfold insN
  split
  · exact hc
  · split
    · exact hF _
    · exact hF _
theorem srtN_ok {F : Nat → Nat} {P : Nat → Prop} (hF : ∀ i, P (F i)) : ∀ k i, P (srtN F k i)
  | 0 => hF
  | k + 1 => insN_ok (srtN_ok hF k k) (srtN_ok hF k)
theorem dlN_ok {F : Nat → Nat} {p k : Nat} {P : Nat → Prop} (hF : ∀ i, P (F i)) : ∀ i, P (dlN F p k i) := fun i => by
  unfold dlN
  split
  · exact hF _
  · exact hF _
theorem upN_ok {F : Nat → Nat} {k c : Nat} {P : Nat → Prop} (hc : P c) (hF : ∀ i, P (F i)) : ∀ i, P (upN F k c i) := fun i => by
  unfold upN
  split
  · exact hc
  · exact hF _
/-- a sum -/
def sm (g : Nat → Nat) : Nat → Nat
  | 0 => 0
  | k + 1 => sm g k + g k
section
variable {d a n : Nat} {h : aHf} {r : Nat × Nat × Nat × Nat} {F : Nat → Nat}
theorem drop_loop {p : Nat} {y : Int32} (hn : n ≤ 60) : ∀ m i : Nat, i + m + 1 = n → p ≤ i → L (d + 2) 147 2 [some (.ref a), some (.int y), some (.int (iI i))] [] (nlW h a n (dlN F p i), r) =
    some (.inl none, (nlW h a (n - 1) (dlN F p (n - 1)), r)) := by
  intro m
  induction m with
  | zero =>
    intro i hi hp
    have c1 : (n : Int) - 1 ≤ i := by omega
    have e1 : (n : Int) - 1 = ((n - 1 : Nat) : Int) := by omega
    have e2 : max (0 : Int) ((n - 1 : Nat) : Int) = ((n - 1 : Nat) : Int) := by omega
    have e3 : i = n - 1 := by omega
    rw [r147_2]
    simp (disch := omega) only [r147_0, r147_1, r147_3, r147_4, r147_7, r147_8, r147_9, r147_12, r147_13, r147_14, r147_15, r147_16, r147_17, r147_18, r147_21, r147_24, r147_27, r147_30, r147_31, r147_32, r147_33, r147_36, r147_37, r147_38, r147_41, r147_44, nl_a, iI_sub, iI_le, c1, e1, s_max, e2, sB1i, nl_ua, e3, kl_n, kl_i, kl_r, kl_z, kl_l, kl_d, catS_0, catS_c, cat_i, cat_l, cat_d, cat_r, cat_n, kC_r, kC_x, Option.bind_some, Option.toList_some, Option.toList_none, List.cons_append, List.nil_append, gB0, gB1, gB2, gB3, gB4, rvB, nI_iI, i0, i1, l0_, wr_s, aup_s, and_true, true_and, and_self, eq_self, if_true, if_false, Nat.zero_le, Nat.reduceAdd, Nat.reduceLeDiff, gN_I, gN_L, gN_P, bI_0, bI_ok, z0, z1, Bool.true_eq, Bool.false_eq_true, not_true_eq_false, not_false_eq_true]
    simp (disch := omega) only [Int.le_refl, r147_0, r147_1, r147_3, r147_4, r147_7, r147_8, r147_9, r147_12, r147_13, r147_14, r147_15, r147_16, r147_17, r147_18, r147_21, r147_24, r147_27, r147_30, r147_31, r147_32, r147_33, r147_36, r147_37, r147_38, r147_41, r147_44, nl_a, iI_sub, iI_le, e1, s_max, e2, sB1i, nl_ua, kl_n, kl_i, kl_r, kl_z, kl_l, kl_d, catS_0, catS_c, cat_i, cat_l, cat_d, cat_r, cat_n, kC_r, kC_x, Option.bind_some, Option.toList_some, Option.toList_none, List.cons_append, List.nil_append, gB0, gB1, gB2, gB3, gB4, rvB, nI_iI, i0, i1, l0_, wr_s, aup_s, and_true, true_and, and_self, eq_self, if_true, if_false, Nat.zero_le, Nat.reduceAdd, Nat.reduceLeDiff, gN_I, gN_L, gN_P, bI_0, bI_ok, z0, z1, Bool.true_eq, Bool.false_eq_true, not_true_eq_false, not_false_eq_true]
  | succ m ih =>
    intro i hi hp
    have c1 : ¬ (n : Int) - 1 ≤ i := by omega
    have e1 : (i : Int) + 1 = ((i + 1 : Nat) : Int) := by omega
    rw [r147_2]
    simp (disch := omega) only [r147_0, r147_1, r147_3, r147_4, r147_7, r147_8, r147_9, r147_12, r147_13, r147_14, r147_15, r147_16, r147_17, r147_18, r147_21, r147_24, r147_27, r147_30, r147_31, r147_32, r147_33, r147_36, r147_37, r147_38, r147_41, r147_44, nl_a, iI_sub, iI_le, c1, iI_add, e1, s_codeAt, s_nput, Int.toNat_natCast, dlN_at, dlN_s F hp, ih (i + 1) (by omega) (by omega), kl_n, kl_i, kl_r, kl_z, kl_l, kl_d, catS_0, catS_c, cat_i, cat_l, cat_d, cat_r, cat_n, kC_r, kC_x, Option.bind_some, Option.toList_some, Option.toList_none, List.cons_append, List.nil_append, gB0, gB1, gB2, gB3, gB4, rvB, nI_iI, i0, i1, l0_, wr_s, aup_s, and_true, true_and, and_self, eq_self, if_true, if_false, Nat.zero_le, Nat.reduceAdd, Nat.reduceLeDiff, gN_I, gN_L, gN_P, bI_0, bI_ok, z0, z1, Bool.true_eq, Bool.false_eq_true, not_true_eq_false, not_false_eq_true]
theorem s_drop {p : Nat} (hp : p < n) (hn : n ≤ 60) : aE (d + 3) 147 [.ref a, .int (iI p)] (nlW h a n F, r) = some (.inl none, (nlW h a (n - 1) (dlN F p (n - 1)), r)) := by
  have hl := drop_loop (d := d) (a := a) (n := n) (h := h) (r := r) (F := F) (p := p) (y := iI p) hn (n - 1 - p) p (by omega) (Nat.le_refl p)
  rw [dlN_0] at hl
  simp only [e147, r147_0, r147_1, r147_3, r147_4, r147_7, r147_8, r147_9, r147_12, r147_13, r147_14, r147_15, r147_16, r147_17, r147_18, r147_21, r147_24, r147_27, r147_30, r147_31, r147_32, r147_33, r147_36, r147_37, r147_38, r147_41, r147_44, hl, kl_n, kl_i, kl_r, kl_z, kl_l, kl_d, catS_0, catS_c, cat_i, cat_l, cat_d, cat_r, cat_n, kC_r, kC_x, Option.bind_some, Option.toList_some, Option.toList_none, List.cons_append, List.nil_append, gB0, gB1, gB2, gB3, gB4, rvB, nI_iI, i0, i1, l0_, wr_s, aup_s, and_true, true_and, and_self, eq_self, if_true, if_false, Nat.zero_le, Nat.reduceAdd, Nat.reduceLeDiff, gN_I, gN_L, gN_P, bI_0, bI_ok, z0, z1, Bool.true_eq, Bool.false_eq_true, not_true_eq_false, not_false_eq_true]
theorem sort_loop (hn : n ≤ 60) (hF : ∀ i, cOk (F i)) : ∀ m k : Nat, k + m = n → L (d + 3) 149 2 [some (.ref a), some (.int (iI k))] [] (nlW h a n (srtN F k), r) = some (.inl none, (nlW h a n (srtN F n), r)) := by
  intro m
  induction m with
  | zero =>
    intro k hk
    have c1 : (n : Int) ≤ k := by omega
    rw [r149_2]
    simp (disch := omega) only [r149_0, r149_1, r149_3, r149_4, r149_7, r149_10, r149_11, r149_12, r149_15i, r149_15, r149_16, r149_19, r149_22, nl_a, iI_le, c1, kl_n, kl_i, kl_r, kl_z, kl_l, kl_d, catS_0, catS_c, cat_i, cat_l, cat_d, cat_r, cat_n, kC_r, kC_x, Option.bind_some, Option.toList_some, Option.toList_none, List.cons_append, List.nil_append, gB0, gB1, gB2, gB3, gB4, rvB, nI_iI, i0, i1, l0_, wr_s, aup_s, and_true, true_and, and_self, eq_self, if_true, if_false, Nat.zero_le, Nat.reduceAdd, Nat.reduceLeDiff, gN_I, gN_L, gN_P, bI_0, bI_ok, z0, z1, Bool.true_eq, Bool.false_eq_true, not_true_eq_false, not_false_eq_true]
    rw [show k = n by omega]
  | succ m ih =>
    intro k hk
    have c1 : ¬ (n : Int) ≤ k := by omega
    have e1 : (k : Int) + 1 = ((k + 1 : Nat) : Int) := by omega
    have h9 := ih (k + 1) (by omega)
    rw [r149_2]
    simp (disch := omega) only [r149_0, r149_1, r149_3, r149_4, r149_7, r149_10, r149_11, r149_12, r149_15i, r149_15, r149_16, r149_19, r149_22, nl_a, iI_le, c1, s_sink (show k < 60 by omega) (srtN_ok hF k), iI_add, e1, kl_n, kl_i, kl_r, kl_z, kl_l, kl_d, catS_0, catS_c, cat_i, cat_l, cat_d, cat_r, cat_n, kC_r, kC_x, Option.bind_some, Option.toList_some, Option.toList_none, List.cons_append, List.nil_append, gB0, gB1, gB2, gB3, gB4, rvB, nI_iI, i0, i1, l0_, wr_s, aup_s, and_true, true_and, and_self, eq_self, if_true, if_false, Nat.zero_le, Nat.reduceAdd, Nat.reduceLeDiff, gN_I, gN_L, gN_P, bI_0, bI_ok, z0, z1, Bool.true_eq, Bool.false_eq_true, not_true_eq_false, not_false_eq_true]
    exact h9
theorem s_nsort (hn : n ≤ 60) (hF : ∀ i, cOk (F i)) : aE (d + 4) 149 [.ref a] (nlW h a n F, r) = some (.inl none, (nlW h a n (srtN F n), r)) := by
  by_cases h0 : n = 0
  · subst h0
    have c1 : ((0 : Nat) : Int) ≤ 1 := by omega
    simp (disch := omega) only [e149, r149_0, r149_1, r149_3, r149_4, r149_7, r149_10, r149_11, r149_12, r149_15i, r149_15, r149_16, r149_19, r149_22, r149_2, nl_a, iI_le, c1, kl_n, kl_i, kl_r, kl_z, kl_l, kl_d, catS_0, catS_c, cat_i, cat_l, cat_d, cat_r, cat_n, kC_r, kC_x, Option.bind_some, Option.toList_some, Option.toList_none, List.cons_append, List.nil_append, gB0, gB1, gB2, gB3, gB4, rvB, nI_iI, i0, i1, l0_, wr_s, aup_s, and_true, true_and, and_self, eq_self, if_true, if_false, Nat.zero_le, Nat.reduceAdd, Nat.reduceLeDiff, gN_I, gN_L, gN_P, bI_0, bI_ok, z0, z1, Bool.true_eq, Bool.false_eq_true, not_true_eq_false, not_false_eq_true]
    rfl
  · have hl := sort_loop (d := d) (a := a) (n := n) (h := h) (r := r) (F := F) hn hF (n - 1) 1 (by omega)
    rw [srtN_1] at hl
    simp only [e149, r149_0, r149_1, r149_3, r149_4, r149_7, r149_10, r149_11, r149_12, r149_15i, r149_15, r149_16, r149_19, r149_22, kl_n, kl_i, kl_r, kl_z, kl_l, kl_d, catS_0, catS_c, cat_i, cat_l, cat_d, cat_r, cat_n, kC_r, kC_x, Option.bind_some, Option.toList_some, Option.toList_none, List.cons_append, List.nil_append, gB0, gB1, gB2, gB3, gB4, rvB, nI_iI, i0, i1, l0_, wr_s, aup_s, and_true, true_and, and_self, eq_self, if_true, if_false, Nat.zero_le, Nat.reduceAdd, Nat.reduceLeDiff, gN_I, gN_L, gN_P, bI_0, bI_ok, z0, z1, Bool.true_eq, Bool.false_eq_true, not_true_eq_false, not_false_eq_true]
    exact hl
end
