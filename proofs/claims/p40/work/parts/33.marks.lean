/-! ===== what begins where: at a; its rows at a + 1, a + 2, a + 3 ===== -/
def mkW (h : aHf) (a n : Nat) (P A B : Nat → Nat) : aHf := fun q => if q = a then some (aB 2 [.ref (a + 1), .ref (a + 2), .ref (a + 3), .int (iI n)]) else if q = a + 1 then some (aI .int 11 (fun i => iI (P i))) else if q = a + 2 then some (aI .int 11 (fun i => iI (A i))) else if q = a + 3 then some (aI .int 11 (fun i => iI (B i))) else h q
section
variable {d a n : Nat} {h : aHf} {r : Nat × Nat × Nat × Nat} {P A B : Nat → Nat}
theorem mk_a : mkW h a n P A B a = some (aB 2 [.ref (a + 1), .ref (a + 2), .ref (a + 3), .int (iI n)]) := if_pos rfl
theorem mk_1 : mkW h a n P A B (a + 1) = some (aI .int 11 (fun i => iI (P i))) := by
  unfold mkW
  rw [if_neg (by omega), if_pos rfl]
theorem mk_2 : mkW h a n P A B (a + 2) = some (aI .int 11 (fun i => iI (A i))) := by
  unfold mkW
  rw [if_neg (by omega), if_neg (by omega), if_pos rfl]
theorem mk_3 : mkW h a n P A B (a + 3) = some (aI .int 11 (fun i => iI (B i))) := by
  unfold mkW
  rw [if_neg (by omega), if_neg (by omega), if_neg (by omega), if_pos rfl]
theorem mk_o {q : Nat} (h1 : q < a ∨ a + 3 < q) : mkW h a n P A B q = h q := by
  unfold mkW
  rw [if_neg (by omega), if_neg (by omega), if_neg (by omega), if_neg (by omega)]
theorem mk_id (h1 : h a = some (aB 2 [.ref (a + 1), .ref (a + 2), .ref (a + 3), .int (iI n)])) (h2 : h (a + 1) = some (aI .int 11 (fun i => iI (P i)))) (h3 : h (a + 2) = some (aI .int 11 (fun i => iI (A i)))) (h4 : h (a + 3) = some (aI .int 11 (fun i => iI (B i)))) : mkW h a n P A B = h := by
  funext q
  unfold mkW
  by_cases e1 : q = a
  · rw [if_pos e1, e1, h1]
  · rw [if_neg e1]
    by_cases e2 : q = a + 1
    · rw [if_pos e2, e2, h2]
    · rw [if_neg e2]
      by_cases e3 : q = a + 2
      · rw [if_pos e3, e3, h3]
      · rw [if_neg e3]
        by_cases e4 : q = a + 3
        · rw [if_pos e4, e4, h4]
        · rw [if_neg e4]
theorem mk_ua {m : Nat} : aup (mkW h a n P A B) a (aB 2 [.ref (a + 1), .ref (a + 2), .ref (a + 3), .int (iI m)]) = mkW h a m P A B := by
  funext q
  unfold aup mkW
  by_cases e1 : q = a
  · rw [if_pos e1, if_pos e1]
  · rw [if_neg e1, if_neg e1, if_neg e1]
theorem mk_u1 {G : Nat → Nat} : aup (mkW h a n P A B) (a + 1) (aI .int 11 (fun i => iI (G i))) = mkW h a n G A B := by
  funext q
  unfold aup mkW
  by_cases e1 : q = a + 1
  · rw [if_pos e1, if_neg (by omega), if_pos e1]
  · rw [if_neg e1, if_neg e1, if_neg e1]
theorem mk_u2 {G : Nat → Nat} : aup (mkW h a n P A B) (a + 2) (aI .int 11 (fun i => iI (G i))) = mkW h a n P G B := by
  funext q
  unfold aup mkW
  by_cases e1 : q = a + 2
  · rw [if_pos e1, if_neg (by omega), if_neg (by omega), if_pos e1]
  · rw [if_neg e1, if_neg e1, if_neg e1]
theorem mk_u3 {G : Nat → Nat} : aup (mkW h a n P A B) (a + 3) (aI .int 11 (fun i => iI (G i))) = mkW h a n P A G := by
  funext q
  unfold aup mkW
  by_cases e1 : q = a + 3
  · rw [if_pos e1, if_neg (by omega), if_neg (by omega), if_neg (by omega), if_pos e1]
  · rw [if_neg e1, if_neg e1, if_neg e1]
theorem updI_N {F : Nat → Nat} {k c : Nat} : upd (fun i => iI (F i)) k (iI c) = fun i => iI (upN F k c i) := by
  funext i
  unfold upd upN
  by_cases e : i = k
  · rw [if_pos e, if_pos e]
  · rw [if_neg e, if_neg e]
theorem s_placeAt {j : Int} (h1 : 0 ≤ j) (h2 : j < 11) : aE (d + 2) 116 [.ref a, .int (iI j)] (mkW h a n P A B, r) = some (.inl (some (.int (iI (P j.toNat)))), (mkW h a n P A B, r)) := by
  simp only [e116, r116_0, r116_1, r116_4, r116_5, r116_8, mk_a, s_intAt mk_1 h1 h2 (by decide), kl_n, kl_i, kl_r, kl_z, kl_l, kl_d, catS_0, catS_c, cat_i, cat_l, cat_d, cat_r, cat_n, kC_r, kC_x, Option.bind_some, Option.toList_some, Option.toList_none, List.cons_append, List.nil_append, gB0, gB1, gB2, gB3, gB4, rvB, nI_iI, i0, i1, l0_, wr_s, aup_s, and_true, true_and, and_self, eq_self, if_true, if_false, Nat.zero_le, Nat.reduceAdd, Nat.reduceLeDiff, gN_I, gN_L, gN_P, bI_0, bI_ok, z0, z1, Bool.true_eq, Bool.false_eq_true, not_true_eq_false, not_false_eq_true]
theorem s_firstAt {j : Int} (h1 : 0 ≤ j) (h2 : j < 11) : aE (d + 2) 117 [.ref a, .int (iI j)] (mkW h a n P A B, r) = some (.inl (some (.int (iI (A j.toNat)))), (mkW h a n P A B, r)) := by
  simp only [e117, r117_0, r117_1, r117_4, r117_5, r117_8, mk_a, s_intAt mk_2 h1 h2 (by decide), kl_n, kl_i, kl_r, kl_z, kl_l, kl_d, catS_0, catS_c, cat_i, cat_l, cat_d, cat_r, cat_n, kC_r, kC_x, Option.bind_some, Option.toList_some, Option.toList_none, List.cons_append, List.nil_append, gB0, gB1, gB2, gB3, gB4, rvB, nI_iI, i0, i1, l0_, wr_s, aup_s, and_true, true_and, and_self, eq_self, if_true, if_false, Nat.zero_le, Nat.reduceAdd, Nat.reduceLeDiff, gN_I, gN_L, gN_P, bI_0, bI_ok, z0, z1, Bool.true_eq, Bool.false_eq_true, not_true_eq_false, not_false_eq_true]
theorem s_secondAt {j : Int} (h1 : 0 ≤ j) (h2 : j < 11) : aE (d + 2) 118 [.ref a, .int (iI j)] (mkW h a n P A B, r) = some (.inl (some (.int (iI (B j.toNat)))), (mkW h a n P A B, r)) := by
  simp only [e118, r118_0, r118_1, r118_4, r118_5, r118_8, mk_a, s_intAt mk_3 h1 h2 (by decide), kl_n, kl_i, kl_r, kl_z, kl_l, kl_d, catS_0, catS_c, cat_i, cat_l, cat_d, cat_r, cat_n, kC_r, kC_x, Option.bind_some, Option.toList_some, Option.toList_none, List.cons_append, List.nil_append, gB0, gB1, gB2, gB3, gB4, rvB, nI_iI, i0, i1, l0_, wr_s, aup_s, and_true, true_and, and_self, eq_self, if_true, if_false, Nat.zero_le, Nat.reduceAdd, Nat.reduceLeDiff, gN_I, gN_L, gN_P, bI_0, bI_ok, z0, z1, Bool.true_eq, Bool.false_eq_true, not_true_eq_false, not_false_eq_true]
theorem s_msize : aE (d + 1) 122 [.ref a] (mkW h a n P A B, r) = some (.inl (some (.int (iI n))), (mkW h a n P A B, r)) := by
  simp only [e122, r122_0, r122_1, r122_4, mk_a, kl_n, kl_i, kl_r, kl_z, kl_l, kl_d, catS_0, catS_c, cat_i, cat_l, cat_d, cat_r, cat_n, kC_r, kC_x, Option.bind_some, Option.toList_some, Option.toList_none, List.cons_append, List.nil_append, gB0, gB1, gB2, gB3, gB4, rvB, nI_iI, i0, i1, l0_, wr_s, aup_s, and_true, true_and, and_self, eq_self, if_true, if_false, Nat.zero_le, Nat.reduceAdd, Nat.reduceLeDiff, gN_I, gN_L, gN_P, bI_0, bI_ok, z0, z1, Bool.true_eq, Bool.false_eq_true, not_true_eq_false, not_false_eq_true]
theorem s_putAll {j : Int} {x y z : Nat} (h1 : 0 ≤ j) (h2 : j < 11) : aE (d + 2) 114 [.ref a, .int (iI j), .int (iI x), .int (iI y), .int (iI z)] (mkW h a n P A B, r) = some (.inl none, (mkW h a n (upN P j.toNat x) (upN A j.toNat y) (upN B j.toNat z), r)) := by
  simp only [e114, r114_0, r114_1, r114_4, r114_5, r114_6, r114_9, r114_10, r114_13, r114_14, r114_15, r114_18, r114_19, r114_22, r114_23, r114_25, r114_28, mk_a, s_putInt mk_1 h1 h2 (by decide), s_putInt mk_2 h1 h2 (by decide), s_putInt mk_3 h1 h2 (by decide), updI_N, mk_u1, mk_u2, mk_u3, kl_n, kl_i, kl_r, kl_z, kl_l, kl_d, catS_0, catS_c, cat_i, cat_l, cat_d, cat_r, cat_n, kC_r, kC_x, Option.bind_some, Option.toList_some, Option.toList_none, List.cons_append, List.nil_append, gB0, gB1, gB2, gB3, gB4, rvB, nI_iI, i0, i1, l0_, wr_s, aup_s, and_true, true_and, and_self, eq_self, if_true, if_false, Nat.zero_le, Nat.reduceAdd, Nat.reduceLeDiff, gN_I, gN_L, gN_P, bI_0, bI_ok, z0, z1, Bool.true_eq, Bool.false_eq_true, not_true_eq_false, not_false_eq_true]
theorem s_move {j k : Int} (h1 : 0 ≤ j) (h2 : j < 11) (h3 : 0 ≤ k) (h4 : k < 11) : aE (d + 3) 121 [.ref a, .int (iI j), .int (iI k)] (mkW h a n P A B, r) = some (.inl none, (mkW h a n (upN P k.toNat (P j.toNat)) (upN A k.toNat (A j.toNat)) (upN B k.toNat (B j.toNat)), r)) := by
  simp only [e121, r121_0, r121_1, r121_2, r121_3, r121_4, r121_7, r121_8, r121_9, r121_12, r121_13, r121_14, r121_17, r121_20, mk_a, s_placeAt h1 h2, s_firstAt h1 h2, s_secondAt h1 h2, s_putAll h3 h4, kl_n, kl_i, kl_r, kl_z, kl_l, kl_d, catS_0, catS_c, cat_i, cat_l, cat_d, cat_r, cat_n, kC_r, kC_x, Option.bind_some, Option.toList_some, Option.toList_none, List.cons_append, List.nil_append, gB0, gB1, gB2, gB3, gB4, rvB, nI_iI, i0, i1, l0_, wr_s, aup_s, and_true, true_and, and_self, eq_self, if_true, if_false, Nat.zero_le, Nat.reduceAdd, Nat.reduceLeDiff, gN_I, gN_L, gN_P, bI_0, bI_ok, z0, z1, Bool.true_eq, Bool.false_eq_true, not_true_eq_false, not_false_eq_true]
end
/-- the last that is not above -/
def lu (P : Nat → Nat) (v : Nat) : Nat → Nat
  | 0 => 0
  | k + 1 => if P k ≤ v then k else lu P v k
theorem lu_lt (P : Nat → Nat) (v : Nat) : ∀ {k : Nat}, 0 < k → lu P v k < k
  | 0, h => absurd h (Nat.lt_irrefl 0)
  | k + 1, _ => by
    show (if P k ≤ v then k else lu P v k) < k + 1
    split
    · omega
    · by_cases hk : 0 < k
      · have := lu_lt P v hk
        omega
      · have : k = 0 := by omega
        subst this
        exact Nat.zero_lt_one
theorem lu_le {P : Nat → Nat} {v : Nat} (h0 : P 0 ≤ v) : ∀ k, P (lu P v k) ≤ v
  | 0 => h0
  | k + 1 => by
    show P (if P k ≤ v then k else lu P v k) ≤ v
    split
    · assumption
    · exact lu_le h0 k
section
variable {d a n : Nat} {h : aHf} {r : Nat × Nat × Nat × Nat} {P A B : Nat → Nat}
theorem last_loop {v : Nat} (hn : n ≤ 11) (hv : v < 2147483648) (hP : ∀ i, P i < 2147483648) : ∀ m i : Nat, i + m = n → L (d + 2) 123 4 [some (.ref a), some (.int (iI v)), some (.int (iI (lu P v i))), some (.int (iI i))] [] (mkW h a n P A B, r) = some (.inl (some (.int (iI (lu P v n)))), (mkW h a n P A B, r)) := by
  intro m
  induction m with
  | zero =>
    intro i hi
    have c1 : (n : Int) ≤ i := by omega
    rw [r123_4]
    simp (disch := omega) only [r123_0, r123_1, r123_2, r123_3, r123_5, r123_6, r123_9, r123_12, r123_13, r123_14, r123_17, r123_18, r123_21, r123_22, r123_23, r123_26, r123_29, r123_30, mk_a, iI_le, c1, kl_n, kl_i, kl_r, kl_z, kl_l, kl_d, catS_0, catS_c, cat_i, cat_l, cat_d, cat_r, cat_n, kC_r, kC_x, Option.bind_some, Option.toList_some, Option.toList_none, List.cons_append, List.nil_append, gB0, gB1, gB2, gB3, gB4, rvB, nI_iI, i0, i1, l0_, wr_s, aup_s, and_true, true_and, and_self, eq_self, if_true, if_false, Nat.zero_le, Nat.reduceAdd, Nat.reduceLeDiff, gN_I, gN_L, gN_P, bI_0, bI_ok, z0, z1, Bool.true_eq, Bool.false_eq_true, not_true_eq_false, not_false_eq_true]
    rw [show i = n by omega]
  | succ m ih =>
    intro i hi
    have c1 : ¬ (n : Int) ≤ i := by omega
    have e1 : (i : Int) + 1 = ((i + 1 : Nat) : Int) := by omega
    have hp := hP i
    have h9 := ih (i + 1) (by omega)
    rw [r123_4]
    simp (disch := omega) only [r123_0, r123_1, r123_2, r123_3, r123_5, r123_6, r123_9, r123_12, r123_13, r123_14, r123_17, r123_18, r123_21, r123_22, r123_23, r123_26, r123_29, r123_30, mk_a, iI_le, iI_lt, c1, s_placeAt, Int.toNat_natCast, iI_add, e1, kl_n, kl_i, kl_r, kl_z, kl_l, kl_d, catS_0, catS_c, cat_i, cat_l, cat_d, cat_r, cat_n, kC_r, kC_x, Option.bind_some, Option.toList_some, Option.toList_none, List.cons_append, List.nil_append, gB0, gB1, gB2, gB3, gB4, rvB, nI_iI, i0, i1, l0_, wr_s, aup_s, and_true, true_and, and_self, eq_self, if_true, if_false, Nat.zero_le, Nat.reduceAdd, Nat.reduceLeDiff, gN_I, gN_L, gN_P, bI_0, bI_ok, z0, z1, Bool.true_eq, Bool.false_eq_true, not_true_eq_false, not_false_eq_true]
    by_cases q : P i ≤ v
    · rw [if_neg (by omega)]
      rw [show lu P v (i + 1) = i from if_pos q] at h9
      exact h9
    · rw [if_pos (by omega)]
      rw [show lu P v (i + 1) = lu P v i from if_neg q] at h9
      exact h9
theorem s_lastUpTo {v : Nat} (hn : n ≤ 11) (hv : v < 2147483648) (hP : ∀ i, P i < 2147483648) : aE (d + 3) 123 [.ref a, .int (iI v)] (mkW h a n P A B, r) = some (.inl (some (.int (iI (lu P v n)))), (mkW h a n P A B, r)) := by
  have hl := last_loop (d := d) (a := a) (h := h) (r := r) (A := A) (B := B) hn hv hP n 0 (by omega)
  rw [show lu P v 0 = 0 from rfl, show ((0 : Nat) : Int) = 0 from rfl] at hl
  simp only [e123, r123_0, r123_1, r123_2, r123_3, r123_5, r123_6, r123_9, r123_12, r123_13, r123_14, r123_17, r123_18, r123_21, r123_22, r123_23, r123_26, r123_29, r123_30, hl, kl_n, kl_i, kl_r, kl_z, kl_l, kl_d, catS_0, catS_c, cat_i, cat_l, cat_d, cat_r, cat_n, kC_r, kC_x, Option.bind_some, Option.toList_some, Option.toList_none, List.cons_append, List.nil_append, gB0, gB1, gB2, gB3, gB4, rvB, nI_iI, i0, i1, l0_, wr_s, aup_s, and_true, true_and, and_self, eq_self, if_true, if_false, Nat.zero_le, Nat.reduceAdd, Nat.reduceLeDiff, gN_I, gN_L, gN_P, bI_0, bI_ok, z0, z1, Bool.true_eq, Bool.false_eq_true, not_true_eq_false, not_false_eq_true]
theorem s_beginsAt {v : Nat} (h0 : 0 < n) (hn : n ≤ 11) (hv : v < 2147483648) (hP : ∀ i, P i < 2147483648) : aE (d + 4) 124 [.ref a, .int (iI v)] (mkW h a n P A B, r) = some (.inl (some (.int (bI (P (lu P v n) = v)))), (mkW h a n P A B, r)) := by
  have h1 := lu_lt P v h0
  have h2 := hP (lu P v n)
  simp (disch := omega) only [e124, r124_0, r124_1, r124_2, r124_3, r124_6, r124_9, r124_10, r124_13, r124_14, r124_17, r124_18, mk_a, s_lastUpTo hn hv hP, s_placeAt, Int.toNat_natCast, iI_eq, kl_n, kl_i, kl_r, kl_z, kl_l, kl_d, catS_0, catS_c, cat_i, cat_l, cat_d, cat_r, cat_n, kC_r, kC_x, Option.bind_some, Option.toList_some, Option.toList_none, List.cons_append, List.nil_append, gB0, gB1, gB2, gB3, gB4, rvB, nI_iI, i0, i1, l0_, wr_s, aup_s, and_true, true_and, and_self, eq_self, if_true, if_false, Nat.zero_le, Nat.reduceAdd, Nat.reduceLeDiff, gN_I, gN_L, gN_P, bI_0, bI_ok, z0, z1, Bool.true_eq, Bool.false_eq_true, not_true_eq_false, not_false_eq_true]
  split
  · exact fin_T (by omega)
  · exact fin_F (by omega)
theorem s_canDrop {v : Nat} (h0 : 0 < n) (hn : n ≤ 11) (hv : v < 2147483648) (hP : ∀ i, P i < 2147483648) : aE (d + 5) 125 [.ref a, .int (iI v)] (mkW h a n P A B, r) = some (.inl (some (.int (bI (0 < v ∧ P (lu P v n) = v)))), (mkW h a n P A B, r)) := by
  simp (disch := omega) only [e125, r125_0, r125_1, r125_4, r125_5, r125_6, r125_9, r125_12, r125_13, r125_16, r125_17, mk_a, s_beginsAt h0 hn hv hP, iI_le, kl_n, kl_i, kl_r, kl_z, kl_l, kl_d, catS_0, catS_c, cat_i, cat_l, cat_d, cat_r, cat_n, kC_r, kC_x, Option.bind_some, Option.toList_some, Option.toList_none, List.cons_append, List.nil_append, gB0, gB1, gB2, gB3, gB4, rvB, nI_iI, i0, i1, l0_, wr_s, aup_s, and_true, true_and, and_self, eq_self, if_true, if_false, Nat.zero_le, Nat.reduceAdd, Nat.reduceLeDiff, gN_I, gN_L, gN_P, bI_0, bI_ok, z0, z1, Bool.true_eq, Bool.false_eq_true, not_true_eq_false, not_false_eq_true]
  repeat' split
  all_goals first
    | exact fin_T (by omega)
    | exact fin_F (by omega)
theorem s_canPut {v : Nat} (h0 : 0 < n) (hn : n ≤ 11) (hv : v < 2147483648) (hP : ∀ i, P i < 2147483648) : aE (d + 5) 126 [.ref a, .int (iI v)] (mkW h a n P A B, r) = some (.inl (some (.int (bI (n < 11 ∨ P (lu P v n) = v)))), (mkW h a n P A B, r)) := by
  simp (disch := omega) only [e126, r126_0, r126_1, r126_4, r126_6, r126_9, r126_10, r126_11, r126_14, r126_17, r126_18, r126_21, r126_22, mk_a, s_beginsAt h0 hn hv hP, iI_lt, iI_le, kl_n, kl_i, kl_r, kl_z, kl_l, kl_d, catS_0, catS_c, cat_i, cat_l, cat_d, cat_r, cat_n, kC_r, kC_x, Option.bind_some, Option.toList_some, Option.toList_none, List.cons_append, List.nil_append, gB0, gB1, gB2, gB3, gB4, rvB, nI_iI, i0, i1, l0_, wr_s, aup_s, and_true, true_and, and_self, eq_self, if_true, if_false, Nat.zero_le, Nat.reduceAdd, Nat.reduceLeDiff, gN_I, gN_L, gN_P, bI_0, bI_ok, z0, z1, Bool.true_eq, Bool.false_eq_true, not_true_eq_false, not_false_eq_true]
  repeat' split
  all_goals first
    | exact fin_T (by omega)
    | exact fin_F (by omega)
theorem mdrop_loop {p : Nat} {x : Int32} (hn : n ≤ 11) : ∀ m i : Nat, i + m + 1 = n → p ≤ i → L (d + 3) 127 15 [some (.ref a), some (.int x), some (.int (iI i))] [] (mkW h a n (dlN P p i) (dlN A p i) (dlN B p i), r) =
    some (.inl none, (mkW h a (n - 1) (dlN P p (n - 1)) (dlN A p (n - 1)) (dlN B p (n - 1)), r)) := by
  intro m
  induction m with
  | zero =>
    intro i hi hp
    have c1 : (n : Int) - 1 ≤ i := by omega
    have e1 : (n : Int) - 1 = ((n - 1 : Nat) : Int) := by omega
    have e3 : i = n - 1 := by omega
    subst e3
    rw [r127_15]
    simp (disch := omega) only [r127_0, r127_1, r127_2, r127_5, r127_8, r127_9, r127_10, r127_11, r127_14, r127_16, r127_17, r127_20, r127_21, r127_22, r127_25, r127_26, r127_27, r127_28, r127_29, r127_30, r127_33, r127_36, r127_39, r127_40i, r127_40, r127_41, r127_44, r127_45, r127_46, r127_49, mk_a, iI_sub, iI_le, Int.le_refl, e1, sB3i, mk_ua, kl_n, kl_i, kl_r, kl_z, kl_l, kl_d, catS_0, catS_c, cat_i, cat_l, cat_d, cat_r, cat_n, kC_r, kC_x, Option.bind_some, Option.toList_some, Option.toList_none, List.cons_append, List.nil_append, gB0, gB1, gB2, gB3, gB4, rvB, nI_iI, i0, i1, l0_, wr_s, aup_s, and_true, true_and, and_self, eq_self, if_true, if_false, Nat.zero_le, Nat.reduceAdd, Nat.reduceLeDiff, gN_I, gN_L, gN_P, bI_0, bI_ok, z0, z1, Bool.true_eq, Bool.false_eq_true, not_true_eq_false, not_false_eq_true]
  | succ m ih =>
    intro i hi hp
    have c1 : ¬ (n : Int) - 1 ≤ i := by omega
    have e1 : (i : Int) + 1 = ((i + 1 : Nat) : Int) := by omega
    rw [r127_15]
    simp (disch := omega) only [r127_0, r127_1, r127_2, r127_5, r127_8, r127_9, r127_10, r127_11, r127_14, r127_16, r127_17, r127_20, r127_21, r127_22, r127_25, r127_26, r127_27, r127_28, r127_29, r127_30, r127_33, r127_36, r127_39, r127_40i, r127_40, r127_41, r127_44, r127_45, r127_46, r127_49, mk_a, iI_sub, iI_le, c1, iI_add, e1, s_move, Int.toNat_natCast, dlN_at, dlN_s P hp, dlN_s A hp, dlN_s B hp, ih (i + 1) (by omega) (by omega), kl_n, kl_i, kl_r, kl_z, kl_l, kl_d, catS_0, catS_c, cat_i, cat_l, cat_d, cat_r, cat_n, kC_r, kC_x, Option.bind_some, Option.toList_some, Option.toList_none, List.cons_append, List.nil_append, gB0, gB1, gB2, gB3, gB4, rvB, nI_iI, i0, i1, l0_, wr_s, aup_s, and_true, true_and, and_self, eq_self, if_true, if_false, Nat.zero_le, Nat.reduceAdd, Nat.reduceLeDiff, gN_I, gN_L, gN_P, bI_0, bI_ok, z0, z1, Bool.true_eq, Bool.false_eq_true, not_true_eq_false, not_false_eq_true]
theorem s_mdrop {v : Nat} (h0 : 0 < n) (hn : n ≤ 11) (hv : v < 2147483648) (hP : ∀ i, P i < 2147483648) (hc : 0 < v ∧ P (lu P v n) = v) : aE (d + 6) 127 [.ref a, .int (iI v)] (mkW h a n P A B, r) =
    some (.inl none, (mkW h a (n - 1) (dlN P (lu P v n) (n - 1)) (dlN A (lu P v n) (n - 1)) (dlN B (lu P v n) (n - 1)), r)) := by
  have h1 := lu_lt P v h0
  have hl := mdrop_loop (d := d + 2) (a := a) (h := h) (r := r) (P := P) (A := A) (B := B) (p := lu P v n) (x := iI v) hn (n - 1 - lu P v n) (lu P v n) (by omega) (Nat.le_refl _)
  rw [dlN_0, dlN_0, dlN_0] at hl
  simp only [e127, r127_0, r127_1, r127_2, r127_5, r127_8, r127_9, r127_10, r127_11, r127_14, r127_16, r127_17, r127_20, r127_21, r127_22, r127_25, r127_26, r127_27, r127_28, r127_29, r127_30, r127_33, r127_36, r127_39, r127_40i, r127_40, r127_41, r127_44, r127_45, r127_46, r127_49, mk_a, s_canDrop h0 hn hv hP, hc, s_lastUpTo hn hv hP, hl, kl_n, kl_i, kl_r, kl_z, kl_l, kl_d, catS_0, catS_c, cat_i, cat_l, cat_d, cat_r, cat_n, kC_r, kC_x, Option.bind_some, Option.toList_some, Option.toList_none, List.cons_append, List.nil_append, gB0, gB1, gB2, gB3, gB4, rvB, nI_iI, i0, i1, l0_, wr_s, aup_s, and_true, true_and, and_self, eq_self, if_true, if_false, Nat.zero_le, Nat.reduceAdd, Nat.reduceLeDiff, gN_I, gN_L, gN_P, bI_0, bI_ok, z0, z1, Bool.true_eq, Bool.false_eq_true, not_true_eq_false, not_false_eq_true]
theorem mput_loop {p : Nat} {x y z : Int32} (hn : n ≤ 10) : ∀ m i : Nat, p + m = i → i ≤ n → ∀ X Y Z : Nat, x = iI X → y = iI Y → z = iI Z → L (d + 3) 128 35 [some (.ref a), some (.int x), some (.int y), some (.int z), some (.int (iI p)), some (.int (iI i))] [] (mkW h a n (shN P i n) (shN A i n) (shN B i n), r) =
    some (.inl none, (mkW h a (n + 1) (insN P p n X) (insN A p n Y) (insN B p n Z), r)) := by
  intro m
  induction m with
  | zero =>
    intro i hi hin X Y Z hX hY hZ
    have c1 : (i : Int) ≤ p := by omega
    have e1 : (n : Int) + 1 = ((n + 1 : Nat) : Int) := by omega
    subst hX hY hZ
    rw [r128_35]
    simp (disch := omega) only [r128_0, r128_1, r128_2, r128_5, r128_8, r128_9, r128_10, r128_11, r128_14, r128_16, r128_17, r128_19, r128_22, r128_23, r128_26, r128_29, r128_30, r128_33, r128_37, r128_39, r128_42, r128_43, r128_45, r128_46, r128_47, r128_49, r128_52, r128_55, r128_58, r128_59i, r128_59, r128_60, r128_63, r128_64, r128_65, r128_68, r128_69, r128_71, r128_72, r128_73, r128_74, r128_77, mk_a, iI_le, c1, iI_add, e1, sB3i, mk_ua, s_putAll, Int.toNat_natCast, kl_n, kl_i, kl_r, kl_z, kl_l, kl_d, catS_0, catS_c, cat_i, cat_l, cat_d, cat_r, cat_n, kC_r, kC_x, Option.bind_some, Option.toList_some, Option.toList_none, List.cons_append, List.nil_append, gB0, gB1, gB2, gB3, gB4, rvB, nI_iI, i0, i1, l0_, wr_s, aup_s, and_true, true_and, and_self, eq_self, if_true, if_false, Nat.zero_le, Nat.reduceAdd, Nat.reduceLeDiff, gN_I, gN_L, gN_P, bI_0, bI_ok, z0, z1, Bool.true_eq, Bool.false_eq_true, not_true_eq_false, not_false_eq_true]
    rw [show i = p by omega]
    rfl
  | succ m ih =>
    intro i hi hin X Y Z hX hY hZ
    have c1 : ¬ (i : Int) ≤ p := by omega
    obtain ⟨j, rfl⟩ : ∃ j, i = j + 1 := ⟨i - 1, by omega⟩
    have e1 : ((j + 1 : Nat) : Int) - 1 = j := by omega
    have e2 : ((j + 1 : Nat) : Int) + -1 = j := by omega
    have h9 := ih j (by omega) (by omega) X Y Z hX hY hZ
    rw [r128_35]
    simp (disch := omega) only [r128_0, r128_1, r128_2, r128_5, r128_8, r128_9, r128_10, r128_11, r128_14, r128_16, r128_17, r128_19, r128_22, r128_23, r128_26, r128_29, r128_30, r128_33, r128_37, r128_39, r128_42, r128_43, r128_45, r128_46, r128_47, r128_49, r128_52, r128_55, r128_58, r128_59i, r128_59, r128_60, r128_63, r128_64, r128_65, r128_68, r128_69, r128_71, r128_72, r128_73, r128_74, r128_77, mk_a, iI_le, c1, iI_sub, iI_add, e1, e2, s_move, Int.toNat_natCast, shN_at, shN_s P (show j < n by omega), shN_s A (show j < n by omega), shN_s B (show j < n by omega), kl_n, kl_i, kl_r, kl_z, kl_l, kl_d, catS_0, catS_c, cat_i, cat_l, cat_d, cat_r, cat_n, kC_r, kC_x, Option.bind_some, Option.toList_some, Option.toList_none, List.cons_append, List.nil_append, gB0, gB1, gB2, gB3, gB4, rvB, nI_iI, i0, i1, l0_, wr_s, aup_s, and_true, true_and, and_self, eq_self, if_true, if_false, Nat.zero_le, Nat.reduceAdd, Nat.reduceLeDiff, gN_I, gN_L, gN_P, bI_0, bI_ok, z0, z1, Bool.true_eq, Bool.false_eq_true, not_true_eq_false, not_false_eq_true]
    exact h9
/-- where a mark goes -/
theorem s_mput {v y z : Nat} (h0 : 0 < n) (hn : n ≤ 11) (hv : v < 2147483648) (hP : ∀ i, P i < 2147483648) (hc : n < 11 ∨ P (lu P v n) = v) : aE (d + 6) 128 [.ref a, .int (iI v), .int (iI y), .int (iI z)] (mkW h a n P A B, r) =
    some (.inl none, (if P (lu P v n) = v then mkW h a n (upN P (lu P v n) v) (upN A (lu P v n) y) (upN B (lu P v n) z) else mkW h a (n + 1) (insN P (lu P v n + 1) n v) (insN A (lu P v n + 1) n y) (insN B (lu P v n + 1) n z), r)) := by
  have h1 := lu_lt P v h0
  have h2 := hP (lu P v n)
  have e1 : ((lu P v n : Nat) : Int) + 1 = ((lu P v n + 1 : Nat) : Int) := by omega
  by_cases q : P (lu P v n) = v
  · have c1 : ((P (lu P v n) : Nat) : Int) = v := by omega
    rw [if_pos q]
    simp (disch := omega) only [e128, r128_0, r128_1, r128_2, r128_5, r128_8, r128_9, r128_10, r128_11, r128_14, r128_16, r128_17, r128_19, r128_22, r128_23, r128_26, r128_29, r128_30, r128_33, r128_37, r128_39, r128_42, r128_43, r128_45, r128_46, r128_47, r128_49, r128_52, r128_55, r128_58, r128_59i, r128_59, r128_60, r128_63, r128_64, r128_65, r128_68, r128_69, r128_71, r128_72, r128_73, r128_74, r128_77, mk_a, s_canPut h0 hn hv hP, hc, s_lastUpTo hn hv hP, s_placeAt, Int.toNat_natCast, iI_eq, c1, s_putAll, kl_n, kl_i, kl_r, kl_z, kl_l, kl_d, catS_0, catS_c, cat_i, cat_l, cat_d, cat_r, cat_n, kC_r, kC_x, Option.bind_some, Option.toList_some, Option.toList_none, List.cons_append, List.nil_append, gB0, gB1, gB2, gB3, gB4, rvB, nI_iI, i0, i1, l0_, wr_s, aup_s, and_true, true_and, and_self, eq_self, if_true, if_false, Nat.zero_le, Nat.reduceAdd, Nat.reduceLeDiff, gN_I, gN_L, gN_P, bI_0, bI_ok, z0, z1, Bool.true_eq, Bool.false_eq_true, not_true_eq_false, not_false_eq_true]
  · have c1 : ¬ ((P (lu P v n) : Nat) : Int) = v := by omega
    have hl := mput_loop (d := d + 2) (a := a) (h := h) (r := r) (P := P) (A := A) (B := B) (p := lu P v n + 1) (show n ≤ 10 by omega) (n - (lu P v n + 1)) n (by omega) (Nat.le_refl n) v y z rfl rfl rfl
    rw [shN_0, shN_0, shN_0] at hl
    rw [if_neg q]
    simp (disch := omega) only [e128, r128_0, r128_1, r128_2, r128_5, r128_8, r128_9, r128_10, r128_11, r128_14, r128_16, r128_17, r128_19, r128_22, r128_23, r128_26, r128_29, r128_30, r128_33, r128_37, r128_39, r128_42, r128_43, r128_45, r128_46, r128_47, r128_49, r128_52, r128_55, r128_58, r128_59i, r128_59, r128_60, r128_63, r128_64, r128_65, r128_68, r128_69, r128_71, r128_72, r128_73, r128_74, r128_77, mk_a, s_canPut h0 hn hv hP, hc, s_lastUpTo hn hv hP, s_placeAt, Int.toNat_natCast, iI_eq, c1, iI_add, e1, kl_n, kl_i, kl_r, kl_z, kl_l, kl_d, catS_0, catS_c, cat_i, cat_l, cat_d, cat_r, cat_n, kC_r, kC_x, Option.bind_some, Option.toList_some, Option.toList_none, List.cons_append, List.nil_append, gB0, gB1, gB2, gB3, gB4, rvB, nI_iI, i0, i1, l0_, wr_s, aup_s, and_true, true_and, and_self, eq_self, if_true, if_false, Nat.zero_le, Nat.reduceAdd, Nat.reduceLeDiff, gN_I, gN_L, gN_P, bI_0, bI_ok, z0, z1, Bool.true_eq, Bool.false_eq_true, not_true_eq_false, not_false_eq_true]
    exact hl
end
section
variable {d a n : Nat} {h : aHf} {r : Nat × Nat × Nat × Nat} {P A B : Nat → Nat}
/-- marks that are only read -/
def mkI (h : aHf) (a n : Nat) (P A B : Nat → Nat) : Prop := h a = some (aB 2 [.ref (a + 1), .ref (a + 2), .ref (a + 3), .int (iI n)]) ∧ h (a + 1) = some (aI .int 11 (fun i => iI (P i))) ∧ h (a + 2) = some (aI .int 11 (fun i => iI (A i))) ∧ h (a + 3) = some (aI .int 11 (fun i => iI (B i)))
theorem mkI_id (hI : mkI h a n P A B) : mkW h a n P A B = h := mk_id hI.1 hI.2.1 hI.2.2.1 hI.2.2.2
theorem s_placeAtG {j : Int} (hI : mkI h a n P A B) (h1 : 0 ≤ j) (h2 : j < 11) : aE (d + 2) 116 [.ref a, .int (iI j)] (h, r) = some (.inl (some (.int (iI (P j.toNat)))), (h, r)) := by
  have e := s_placeAt (d := d) (a := a) (n := n) (h := h) (r := r) (P := P) (A := A) (B := B) h1 h2
  rwa [mkI_id hI] at e
theorem s_firstAtG {j : Int} (hI : mkI h a n P A B) (h1 : 0 ≤ j) (h2 : j < 11) : aE (d + 2) 117 [.ref a, .int (iI j)] (h, r) = some (.inl (some (.int (iI (A j.toNat)))), (h, r)) := by
  have e := s_firstAt (d := d) (a := a) (n := n) (h := h) (r := r) (P := P) (A := A) (B := B) h1 h2
  rwa [mkI_id hI] at e
theorem s_secondAtG {j : Int} (hI : mkI h a n P A B) (h1 : 0 ≤ j) (h2 : j < 11) : aE (d + 2) 118 [.ref a, .int (iI j)] (h, r) = some (.inl (some (.int (iI (B j.toNat)))), (h, r)) := by
  have e := s_secondAt (d := d) (a := a) (n := n) (h := h) (r := r) (P := P) (A := A) (B := B) h1 h2
  rwa [mkI_id hI] at e
/-- two marks alike -/
def mk1 (P A B P' A' B' : Nat → Nat) (j : Nat) : Bool := P j == P' j && (A j == A' j && B j == B' j)
theorem mlike_loop {o : Nat} {P' A' B' : Nat → Nat} (hI : mkI h a n P A B) (hJ : mkI h o n P' A' B') (hn : n ≤ 11) (b1 : ∀ i, P i < 2147483648) (b2 : ∀ i, A i < 2147483648) (b3 : ∀ i, B i < 2147483648) (b4 : ∀ i, P' i < 2147483648) (b5 : ∀ i, A' i < 2147483648) (b6 : ∀ i, B' i < 2147483648) :
    ∀ m i : Nat, i + m = n → L (d + 2) 119 15 [some (.ref a), some (.ref o), some (.int (iI i))] [] (h, r) = some (.inl (some (.int (bI (alR (mk1 P A B P' A' B') i m = true)))), (h, r)) := by
  intro m
  induction m with
  | zero =>
    intro i hi
    have c1 : (n : Int) ≤ i := by omega
    rw [r119_15]
    simp (disch := omega) only [r119_0, r119_1, r119_4, r119_5, r119_8, r119_11, r119_12, r119_13, r119_14, r119_16, r119_17, r119_20, r119_23, r119_24, r119_25, r119_28, r119_29, r119_30, r119_33, r119_36, r119_37, r119_38, r119_41, r119_42, r119_43, r119_46, r119_49, r119_50, r119_51, r119_54, r119_55, r119_56, r119_59, r119_62, r119_63, r119_64, r119_67, r119_70, r119_71, hI.1, iI_le, c1, kl_n, kl_i, kl_r, kl_z, kl_l, kl_d, catS_0, catS_c, cat_i, cat_l, cat_d, cat_r, cat_n, kC_r, kC_x, Option.bind_some, Option.toList_some, Option.toList_none, List.cons_append, List.nil_append, gB0, gB1, gB2, gB3, gB4, rvB, nI_iI, i0, i1, l0_, wr_s, aup_s, and_true, true_and, and_self, eq_self, if_true, if_false, Nat.zero_le, Nat.reduceAdd, Nat.reduceLeDiff, gN_I, gN_L, gN_P, bI_0, bI_ok, z0, z1, Bool.true_eq, Bool.false_eq_true, not_true_eq_false, not_false_eq_true]
    exact fin_T rfl
  | succ m ih =>
    intro i hi
    have c1 : ¬ (n : Int) ≤ i := by omega
    have e1 : (i : Int) + 1 = ((i + 1 : Nat) : Int) := by omega
    have g1 := b1 i
    have g2 := b2 i
    have g3 := b3 i
    have g4 := b4 i
    have g5 := b5 i
    have g6 := b6 i
    have e2 : alR (mk1 P A B P' A' B') i (m + 1) = (mk1 P A B P' A' B' i && alR (mk1 P A B P' A' B') (i + 1) m) := rfl
    rw [r119_15]
    simp (disch := omega) only [r119_0, r119_1, r119_4, r119_5, r119_8, r119_11, r119_12, r119_13, r119_14, r119_16, r119_17, r119_20, r119_23, r119_24, r119_25, r119_28, r119_29, r119_30, r119_33, r119_36, r119_37, r119_38, r119_41, r119_42, r119_43, r119_46, r119_49, r119_50, r119_51, r119_54, r119_55, r119_56, r119_59, r119_62, r119_63, r119_64, r119_67, r119_70, r119_71, hI.1, hJ.1, iI_le, c1, s_placeAtG hI, s_placeAtG hJ, s_firstAtG hI, s_firstAtG hJ, s_secondAtG hI, s_secondAtG hJ, Int.toNat_natCast, iI_eq, iI_add, e1, ih (i + 1) (by omega), e2, kl_n, kl_i, kl_r, kl_z, kl_l, kl_d, catS_0, catS_c, cat_i, cat_l, cat_d, cat_r, cat_n, kC_r, kC_x, Option.bind_some, Option.toList_some, Option.toList_none, List.cons_append, List.nil_append, gB0, gB1, gB2, gB3, gB4, rvB, nI_iI, i0, i1, l0_, wr_s, aup_s, and_true, true_and, and_self, eq_self, if_true, if_false, Nat.zero_le, Nat.reduceAdd, Nat.reduceLeDiff, gN_I, gN_L, gN_P, bI_0, bI_ok, z0, z1, Bool.true_eq, Bool.false_eq_true, not_true_eq_false, not_false_eq_true]
    by_cases q : mk1 P A B P' A' B' i = true
    · have q' := q
      simp only [mk1, Bool.and_eq_true, beq_iff_eq] at q'
      rw [if_pos (by omega), if_pos (by omega), if_pos (by omega), q, Bool.true_and]
    · have q' := q
      simp only [mk1, Bool.and_eq_true, beq_iff_eq] at q'
      have q2 : mk1 P A B P' A' B' i = false := by simpa using q
      rw [q2, Bool.false_and]
      repeat' split
      all_goals first
        | exact fin_F (fun z => by cases z)
        | (exfalso; omega)
theorem s_mlike {o m : Nat} {P' A' B' : Nat → Nat} (hI : mkI h a n P A B) (hJ : mkI h o m P' A' B') (hn : n ≤ 11) (hm : m ≤ 11) (b1 : ∀ i, P i < 2147483648) (b2 : ∀ i, A i < 2147483648) (b3 : ∀ i, B i < 2147483648) (b4 : ∀ i, P' i < 2147483648) (b5 : ∀ i, A' i < 2147483648) (b6 : ∀ i, B' i < 2147483648) :
    aE (d + 3) 119 [.ref a, .ref o] (h, r) = some (.inl (some (.int (bI (n = m ∧ alR (mk1 P A B P' A' B') 0 n = true)))), (h, r)) := by
  simp (disch := omega) only [e119, r119_0, r119_1, r119_4, r119_5, r119_8, r119_11, r119_12, r119_13, r119_14, r119_16, r119_17, r119_20, r119_23, r119_24, r119_25, r119_28, r119_29, r119_30, r119_33, r119_36, r119_37, r119_38, r119_41, r119_42, r119_43, r119_46, r119_49, r119_50, r119_51, r119_54, r119_55, r119_56, r119_59, r119_62, r119_63, r119_64, r119_67, r119_70, r119_71, hI.1, hJ.1, iI_eq, kl_n, kl_i, kl_r, kl_z, kl_l, kl_d, catS_0, catS_c, cat_i, cat_l, cat_d, cat_r, cat_n, kC_r, kC_x, Option.bind_some, Option.toList_some, Option.toList_none, List.cons_append, List.nil_append, gB0, gB1, gB2, gB3, gB4, rvB, nI_iI, i0, i1, l0_, wr_s, aup_s, and_true, true_and, and_self, eq_self, if_true, if_false, Nat.zero_le, Nat.reduceAdd, Nat.reduceLeDiff, gN_I, gN_L, gN_P, bI_0, bI_ok, z0, z1, Bool.true_eq, Bool.false_eq_true, not_true_eq_false, not_false_eq_true]
  by_cases q : n = m
  · subst q
    rw [if_pos rfl]
    have hl := mlike_loop (d := d) (r := r) hI hJ hn b1 b2 b3 b4 b5 b6 n 0 (by omega)
    rw [show ((0 : Nat) : Int) = 0 from rfl] at hl
    rw [hl]
    simp only [true_and]
  · rw [if_neg (by omega)]
    exact fin_F (fun z => q z.1)
theorem mixN_s (F G : Nat → Nat) (i : Nat) : upN (mixN F G i) i (G i) = mixN F G (i + 1) := by
  funext j
  unfold upN mixN
  by_cases e : j = i
  · rw [if_pos e, if_pos (by omega), e]
  · rw [if_neg e]
    by_cases e6 : j < i
    · rw [if_pos e6, if_pos (by omega)]
    · rw [if_neg e6, if_neg (by omega)]
theorem mixN_0 (F G : Nat → Nat) : mixN F G 0 = F := funext fun i => if_neg (by omega)
theorem mkI_o {o m : Nat} {P' A' B' : Nat → Nat} (hJ : mkI h o m P' A' B') (ho : o + 3 < a ∨ a + 3 < o) : mkI (mkW h a n P A B) o m P' A' B' :=
  ⟨(mk_o (by omega)).trans hJ.1, (mk_o (by omega)).trans hJ.2.1, (mk_o (by omega)).trans hJ.2.2.1, (mk_o (by omega)).trans hJ.2.2.2⟩
theorem mtake_loop {o m : Nat} {P' A' B' : Nat → Nat} (hJ : mkI h o m P' A' B') (hm : m ≤ 11) (ho : o + 3 < a ∨ a + 3 < o) :
    ∀ k i : Nat, i + k = m → L (d + 2) 120 10 [some (.ref a), some (.ref o), some (.int (iI i))] [] (mkW h a m (mixN P P' i) (mixN A A' i) (mixN B B' i), r) = some (.inl none, (mkW h a m (mixN P P' m) (mixN A A' m) (mixN B B' m), r)) := by
  intro k
  induction k with
  | zero =>
    intro i hi
    have c1 : (m : Int) ≤ i := by omega
    rw [r120_10]
    simp (disch := omega) only [r120_0, r120_1, r120_2, r120_5, r120_8, r120_9, r120_11, r120_12, r120_15, r120_18, r120_19, r120_20, r120_21, r120_22, r120_25, r120_26, r120_27, r120_30, r120_31, r120_32, r120_35, r120_38, r120_41, r120_44, mk_a, iI_le, c1, kl_n, kl_i, kl_r, kl_z, kl_l, kl_d, catS_0, catS_c, cat_i, cat_l, cat_d, cat_r, cat_n, kC_r, kC_x, Option.bind_some, Option.toList_some, Option.toList_none, List.cons_append, List.nil_append, gB0, gB1, gB2, gB3, gB4, rvB, nI_iI, i0, i1, l0_, wr_s, aup_s, and_true, true_and, and_self, eq_self, if_true, if_false, Nat.zero_le, Nat.reduceAdd, Nat.reduceLeDiff, gN_I, gN_L, gN_P, bI_0, bI_ok, z0, z1, Bool.true_eq, Bool.false_eq_true, not_true_eq_false, not_false_eq_true]
    rw [show i = m by omega]
  | succ k ih =>
    intro i hi
    have c1 : ¬ (m : Int) ≤ i := by omega
    have e1 : (i : Int) + 1 = ((i + 1 : Nat) : Int) := by omega
    have hK := mkI_o (n := m) (P := mixN P P' i) (A := mixN A A' i) (B := mixN B B' i) hJ ho
    rw [r120_10]
    simp (disch := omega) only [r120_0, r120_1, r120_2, r120_5, r120_8, r120_9, r120_11, r120_12, r120_15, r120_18, r120_19, r120_20, r120_21, r120_22, r120_25, r120_26, r120_27, r120_30, r120_31, r120_32, r120_35, r120_38, r120_41, r120_44, mk_a, hK.1, iI_le, c1, s_placeAtG hK, s_firstAtG hK, s_secondAtG hK, s_putAll, Int.toNat_natCast, iI_add, e1, mixN_s, ih (i + 1) (by omega), kl_n, kl_i, kl_r, kl_z, kl_l, kl_d, catS_0, catS_c, cat_i, cat_l, cat_d, cat_r, cat_n, kC_r, kC_x, Option.bind_some, Option.toList_some, Option.toList_none, List.cons_append, List.nil_append, gB0, gB1, gB2, gB3, gB4, rvB, nI_iI, i0, i1, l0_, wr_s, aup_s, and_true, true_and, and_self, eq_self, if_true, if_false, Nat.zero_le, Nat.reduceAdd, Nat.reduceLeDiff, gN_I, gN_L, gN_P, bI_0, bI_ok, z0, z1, Bool.true_eq, Bool.false_eq_true, not_true_eq_false, not_false_eq_true]
theorem s_mtake {o m : Nat} {P' A' B' : Nat → Nat} (hJ : mkI h o m P' A' B') (hm : m ≤ 11) (ho : o + 3 < a ∨ a + 3 < o) : aE (d + 3) 120 [.ref a, .ref o] (mkW h a n P A B, r) = some (.inl none, (mkW h a m (mixN P P' m) (mixN A A' m) (mixN B B' m), r)) := by
  have hK := mkI_o (n := n) (P := P) (A := A) (B := B) hJ ho
  have hl := mtake_loop (d := d) (r := r) (P := P) (A := A) (B := B) hJ hm ho m 0 (by omega)
  rw [mixN_0, mixN_0, mixN_0, show ((0 : Nat) : Int) = 0 from rfl] at hl
  simp (disch := omega) only [e120, r120_0, r120_1, r120_2, r120_5, r120_8, r120_9, r120_11, r120_12, r120_15, r120_18, r120_19, r120_20, r120_21, r120_22, r120_25, r120_26, r120_27, r120_30, r120_31, r120_32, r120_35, r120_38, r120_41, r120_44, mk_a, hK.1, sB3i, mk_ua, hl, kl_n, kl_i, kl_r, kl_z, kl_l, kl_d, catS_0, catS_c, cat_i, cat_l, cat_d, cat_r, cat_n, kC_r, kC_x, Option.bind_some, Option.toList_some, Option.toList_none, List.cons_append, List.nil_append, gB0, gB1, gB2, gB3, gB4, rvB, nI_iI, i0, i1, l0_, wr_s, aup_s, and_true, true_and, and_self, eq_self, if_true, if_false, Nat.zero_le, Nat.reduceAdd, Nat.reduceLeDiff, gN_I, gN_L, gN_P, bI_0, bI_ok, z0, z1, Bool.true_eq, Bool.false_eq_true, not_true_eq_false, not_false_eq_true]
end
